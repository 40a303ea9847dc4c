theorem dX12_init_14 : decode cX12_init 14 = .ok (.sipush 340, 3) := by decide +kernel
theorem dX12_init_17 : decode cX12_init 17 = .ok (.newarray .int, 2) := by decide +kernel
theorem dX12_init_19 : decode cX12_init 19 = .ok (.putfield 13, 3) := by decide +kernel
theorem dX12_init_22 : decode cX12_init 22 = .ok (.aload_n 0, 1) := by decide +kernel
theorem dX12_init_23 : decode cX12_init 23 = .ok (.iconst 2, 1) := by decide +kernel
theorem dX12_init_24 : decode cX12_init 24 = .ok (.newarray .boolean, 2) := by decide +kernel
theorem dX12_init_26 : decode cX12_init 26 = .ok (.putfield 16, 3) := by decide +kernel
theorem dX12_init_29 : decode cX12_init 29 = .ok (.aload_n 0, 1) := by decide +kernel
theorem dX12_init_30 : decode cX12_init 30 = .ok (.iconst 3, 1) := by decide +kernel
theorem dX12_init_31 : decode cX12_init 31 = .ok (.newarray .int, 2) := by decide +kernel
theorem dX12_init_33 : decode cX12_init 33 = .ok (.putfield 20, 3) := by decide +kernel
theorem dX12_init_36 : decode cX12_init 36 = .ok (.aload_n 0, 1) := by decide +kernel
theorem dX12_init_37 : decode cX12_init 37 = .ok (.lconst 1, 1) := by decide +kernel
theorem dX12_init_38 : decode cX12_init 38 = .ok (.putfield 23, 3) := by decide +kernel
theorem dX12_init_41 : decode cX12_init 41 = .ok (.aload_n 0, 1) := by decide +kernel
theorem dX12_init_42 : decode cX12_init 42 = .ok (.bipush 6, 2) := by decide +kernel
theorem dX12_init_44 : decode cX12_init 44 = .ok (.newarray .int, 2) := by decide +kernel
theorem dX12_init_46 : decode cX12_init 46 = .ok (.putfield 27, 3) := by decide +kernel
theorem dX12_init_49 : decode cX12_init 49 = .ok (.aload_n 0, 1) := by decide +kernel
theorem dX12_init_50 : decode cX12_init 50 = .ok (.bipush 6, 2) := by decide +kernel
theorem dX12_init_52 : decode cX12_init 52 = .ok (.newarray .int, 2) := by decide +kernel
theorem dX12_init_54 : decode cX12_init 54 = .ok (.putfield 30, 3) := by decide +kernel
theorem dX12_init_57 : decode cX12_init 57 = .ok (.aload_n 0, 1) := by decide +kernel
theorem dX12_init_58 : decode cX12_init 58 = .ok (.bipush 48, 2) := by decide +kernel
theorem dX12_init_60 : decode cX12_init 60 = .ok (.newarray .boolean, 2) := by decide +kernel
theorem dX12_init_62 : decode cX12_init 62 = .ok (.putfield 33, 3) := by decide +kernel
theorem dX12_init_65 : decode cX12_init 65 = .ok (.aload_n 0, 1) := by decide +kernel
theorem dX12_init_66 : decode cX12_init 66 = .ok (.bipush 48, 2) := by decide +kernel
theorem dX12_init_68 : decode cX12_init 68 = .ok (.newarray .boolean, 2) := by decide +kernel
theorem dX12_init_70 : decode cX12_init 70 = .ok (.putfield 36, 3) := by decide +kernel
theorem dX12_init_73 : decode cX12_init 73 = .ok (.aload_n 0, 1) := by decide +kernel
theorem dX12_init_74 : decode cX12_init 74 = .ok (.bipush 36, 2) := by decide +kernel
theorem dX12_init_76 : decode cX12_init 76 = .ok (.newarray .int, 2) := by decide +kernel
theorem dX12_init_78 : decode cX12_init 78 = .ok (.putfield 39, 3) := by decide +kernel
theorem dX12_init_81 : decode cX12_init 81 = .ok (.aload_n 0, 1) := by decide +kernel
theorem dX12_init_82 : decode cX12_init 82 = .ok (.bipush 64, 2) := by decide +kernel
theorem dX12_init_84 : decode cX12_init 84 = .ok (.newarray .boolean, 2) := by decide +kernel
theorem dX12_init_86 : decode cX12_init 86 = .ok (.putfield 42, 3) := by decide +kernel
theorem dX12_init_89 : decode cX12_init 89 = .ok (.aload_n 0, 1) := by decide +kernel
theorem dX12_init_90 : decode cX12_init 90 = .ok (.bipush 10, 2) := by decide +kernel
theorem dX12_init_92 : decode cX12_init 92 = .ok (.newarray .int, 2) := by decide +kernel
theorem dX12_init_94 : decode cX12_init 94 = .ok (.putfield 45, 3) := by decide +kernel
theorem dX12_init_97 : decode cX12_init 97 = .ok (.aload_n 0, 1) := by decide +kernel
theorem dX12_init_98 : decode cX12_init 98 = .ok (.sipush 150, 3) := by decide +kernel
theorem dX12_init_101 : decode cX12_init 101 = .ok (.newarray .int, 2) := by decide +kernel
theorem dX12_init_103 : decode cX12_init 103 = .ok (.putfield 48, 3) := by decide +kernel
theorem dX12_init_106 : decode cX12_init 106 = .ok (.aload_n 0, 1) := by decide +kernel
theorem dX12_init_107 : decode cX12_init 107 = .ok (.bipush 74, 2) := by decide +kernel
theorem dX12_init_109 : decode cX12_init 109 = .ok (.newarray .int, 2) := by decide +kernel
theorem dX12_init_111 : decode cX12_init 111 = .ok (.putfield 51, 3) := by decide +kernel
theorem dX12_init_114 : decode cX12_init 114 = .ok (.aload_n 0, 1) := by decide +kernel
theorem dX12_init_115 : decode cX12_init 115 = .ok (.iconst 5, 1) := by decide +kernel
theorem dX12_init_116 : decode cX12_init 116 = .ok (.newarray .int, 2) := by decide +kernel
theorem dX12_init_118 : decode cX12_init 118 = .ok (.putfield 54, 3) := by decide +kernel
theorem dX12_init_121 : decode cX12_init 121 = .ok (.aload_n 0, 1) := by decide +kernel
theorem dX12_init_122 : decode cX12_init 122 = .ok (.getfield 7, 3) := by decide +kernel
theorem dX12_init_125 : decode cX12_init 125 = .ok (.bipush 10, 2) := by decide +kernel
theorem dX12_init_127 : decode cX12_init 127 = .ok (.iconst 0, 1) := by decide +kernel
theorem dX12_init_128 : decode cX12_init 128 = .ok (.invokestatic 57, 3) := by decide +kernel
theorem dX12_init_131 : decode cX12_init 131 = .ok (.return_, 1) := by decide +kernel
theorem dX12_in_0 : decode cX12_in 0 = .ok (.lload_n 0, 1) := by decide +kernel
theorem dX12_in_1 : decode cX12_in 1 = .ok (.lload_n 2, 1) := by decide +kernel
theorem dX12_in_2 : decode cX12_in 2 = .ok (.lcmp, 1) := by decide +kernel
theorem dX12_in_3 : decode cX12_in 3 = .ok (.ifCond .lt 14, 3) := by decide +kernel
theorem dX12_in_6 : decode cX12_in 6 = .ok (.lload_n 0, 1) := by decide +kernel
theorem dX12_in_7 : decode cX12_in 7 = .ok (.lload 4, 2) := by decide +kernel
theorem dX12_in_9 : decode cX12_in 9 = .ok (.lcmp, 1) := by decide +kernel
theorem dX12_in_10 : decode cX12_in 10 = .ok (.ifCond .gt 7, 3) := by decide +kernel
theorem dX12_in_13 : decode cX12_in 13 = .ok (.iconst 1, 1) := by decide +kernel
theorem dX12_in_14 : decode cX12_in 14 = .ok (.goto 4, 3) := by decide +kernel
theorem dX12_in_17 : decode cX12_in 17 = .ok (.iconst 0, 1) := by decide +kernel
theorem dX12_in_18 : decode cX12_in 18 = .ok (.ireturn, 1) := by decide +kernel
theorem dX12_bad_0 : decode cX12_bad 0 = .ok (.aload_n 0, 1) := by decide +kernel
theorem dX12_bad_1 : decode cX12_bad 1 = .ok (.getfield 20, 3) := by decide +kernel
theorem dX12_bad_4 : decode cX12_bad 4 = .ok (.iconst 0, 1) := by decide +kernel
theorem dX12_bad_5 : decode cX12_bad 5 = .ok (.dup2, 1) := by decide +kernel
theorem dX12_bad_6 : decode cX12_bad 6 = .ok (.iaload, 1) := by decide +kernel
theorem dX12_bad_7 : decode cX12_bad 7 = .ok (.iconst 1, 1) := by decide +kernel
theorem dX12_bad_8 : decode cX12_bad 8 = .ok (.iadd, 1) := by decide +kernel
theorem dX12_bad_9 : decode cX12_bad 9 = .ok (.iastore, 1) := by decide +kernel
theorem dX12_bad_10 : decode cX12_bad 10 = .ok (.iload_n 1, 1) := by decide +kernel
theorem dX12_bad_11 : decode cX12_bad 11 = .ok (.ireturn, 1) := by decide +kernel
theorem dX12_no_0 : decode cX12_no 0 = .ok (.aload_n 0, 1) := by decide +kernel
theorem dX12_no_1 : decode cX12_no 1 = .ok (.getfield 20, 3) := by decide +kernel
theorem dX12_no_4 : decode cX12_no 4 = .ok (.iconst 1, 1) := by decide +kernel
theorem dX12_no_5 : decode cX12_no 5 = .ok (.dup2, 1) := by decide +kernel
theorem dX12_no_6 : decode cX12_no 6 = .ok (.iaload, 1) := by decide +kernel
theorem dX12_no_7 : decode cX12_no 7 = .ok (.iconst 1, 1) := by decide +kernel
theorem dX12_no_8 : decode cX12_no 8 = .ok (.iadd, 1) := by decide +kernel
theorem dX12_no_9 : decode cX12_no 9 = .ok (.iastore, 1) := by decide +kernel
theorem dX12_no_10 : decode cX12_no 10 = .ok (.bipush (-3), 2) := by decide +kernel
theorem dX12_no_12 : decode cX12_no 12 = .ok (.ireturn, 1) := by decide +kernel
theorem dX12_full_0 : decode cX12_full 0 = .ok (.aload_n 0, 1) := by decide +kernel
theorem dX12_full_1 : decode cX12_full 1 = .ok (.getfield 20, 3) := by decide +kernel
theorem dX12_full_4 : decode cX12_full 4 = .ok (.iconst 2, 1) := by decide +kernel
theorem dX12_full_5 : decode cX12_full 5 = .ok (.dup2, 1) := by decide +kernel
theorem dX12_full_6 : decode cX12_full 6 = .ok (.iaload, 1) := by decide +kernel
theorem dX12_full_7 : decode cX12_full 7 = .ok (.iconst 1, 1) := by decide +kernel
theorem dX12_full_8 : decode cX12_full 8 = .ok (.iadd, 1) := by decide +kernel
theorem dX12_full_9 : decode cX12_full 9 = .ok (.iastore, 1) := by decide +kernel
theorem dX12_full_10 : decode cX12_full 10 = .ok (.bipush (-4), 2) := by decide +kernel
theorem dX12_full_12 : decode cX12_full 12 = .ok (.ireturn, 1) := by decide +kernel
theorem dX12_bits_0 : decode cX12_bits 0 = .ok (.iconst 0, 1) := by decide +kernel
theorem dX12_bits_1 : decode cX12_bits 1 = .ok (.istore_n 1, 1) := by decide +kernel
theorem dX12_bits_2 : decode cX12_bits 2 = .ok (.iload_n 0, 1) := by decide +kernel
theorem dX12_bits_3 : decode cX12_bits 3 = .ok (.istore_n 2, 1) := by decide +kernel
theorem dX12_bits_4 : decode cX12_bits 4 = .ok (.iload_n 2, 1) := by decide +kernel
theorem dX12_bits_5 : decode cX12_bits 5 = .ok (.ifCond .le 16, 3) := by decide +kernel
theorem dX12_bits_8 : decode cX12_bits 8 = .ok (.iload_n 1, 1) := by decide +kernel
theorem dX12_bits_9 : decode cX12_bits 9 = .ok (.iload_n 2, 1) := by decide +kernel
theorem dX12_bits_10 : decode cX12_bits 10 = .ok (.iconst 1, 1) := by decide +kernel
theorem dX12_bits_11 : decode cX12_bits 11 = .ok (.iand, 1) := by decide +kernel
theorem dX12_bits_12 : decode cX12_bits 12 = .ok (.iadd, 1) := by decide +kernel
theorem dX12_bits_13 : decode cX12_bits 13 = .ok (.istore_n 1, 1) := by decide +kernel
theorem dX12_bits_14 : decode cX12_bits 14 = .ok (.iload_n 2, 1) := by decide +kernel
theorem dX12_bits_15 : decode cX12_bits 15 = .ok (.iconst 1, 1) := by decide +kernel
theorem dX12_bits_16 : decode cX12_bits 16 = .ok (.ishr, 1) := by decide +kernel
theorem dX12_bits_17 : decode cX12_bits 17 = .ok (.istore_n 2, 1) := by decide +kernel
theorem dX12_bits_18 : decode cX12_bits 18 = .ok (.goto (-14), 3) := by decide +kernel
theorem dX12_bits_21 : decode cX12_bits 21 = .ok (.iload_n 1, 1) := by decide +kernel
theorem dX12_bits_22 : decode cX12_bits 22 = .ok (.ireturn, 1) := by decide +kernel
theorem dX12_begin_0 : decode cX12_begin 0 = .ok (.iconst 0, 1) := by decide +kernel
theorem dX12_begin_1 : decode cX12_begin 1 = .ok (.istore_n 3, 1) := by decide +kernel
theorem dX12_begin_2 : decode cX12_begin 2 = .ok (.iload_n 3, 1) := by decide +kernel
theorem dX12_begin_3 : decode cX12_begin 3 = .ok (.bipush 74, 2) := by decide +kernel
theorem dX12_begin_5 : decode cX12_begin 5 = .ok (.if_icmp .ge 13, 3) := by decide +kernel
theorem dX12_begin_8 : decode cX12_begin 8 = .ok (.aload_n 0, 1) := by decide +kernel
theorem dX12_begin_9 : decode cX12_begin 9 = .ok (.iload_n 3, 1) := by decide +kernel
theorem dX12_begin_10 : decode cX12_begin 10 = .ok (.iconst 0, 1) := by decide +kernel
theorem dX12_begin_11 : decode cX12_begin 11 = .ok (.iastore, 1) := by decide +kernel
theorem dX12_begin_12 : decode cX12_begin 12 = .ok (.iinc 3 1, 3) := by decide +kernel
theorem dX12_begin_15 : decode cX12_begin 15 = .ok (.goto (-13), 3) := by decide +kernel
theorem dX12_begin_18 : decode cX12_begin 18 = .ok (.aload_n 0, 1) := by decide +kernel
theorem dX12_begin_19 : decode cX12_begin 19 = .ok (.iconst 1, 1) := by decide +kernel
theorem dX12_begin_20 : decode cX12_begin 20 = .ok (.iload_n 1, 1) := by decide +kernel
theorem dX12_begin_21 : decode cX12_begin 21 = .ok (.iastore, 1) := by decide +kernel
theorem dX12_begin_22 : decode cX12_begin 22 = .ok (.aload_n 0, 1) := by decide +kernel
theorem dX12_begin_23 : decode cX12_begin 23 = .ok (.iconst 2, 1) := by decide +kernel
theorem dX12_begin_24 : decode cX12_begin 24 = .ok (.iload_n 2, 1) := by decide +kernel
theorem dX12_begin_25 : decode cX12_begin 25 = .ok (.iastore, 1) := by decide +kernel
theorem dX12_begin_26 : decode cX12_begin 26 = .ok (.return_, 1) := by decide +kernel
theorem dX12_children_0 : decode cX12_children 0 = .ok (.aload_n 0, 1) := by decide +kernel
theorem dX12_children_1 : decode cX12_children 1 = .ok (.getfield 7, 3) := by decide +kernel
theorem dX12_children_4 : decode cX12_children 4 = .ok (.iconst 0, 1) := by decide +kernel
theorem dX12_children_5 : decode cX12_children 5 = .ok (.iaload, 1) := by decide +kernel
theorem dX12_children_6 : decode cX12_children 6 = .ok (.ireturn, 1) := by decide +kernel
theorem dX12_isChild_0 : decode cX12_isChild 0 = .ok (.iload_n 1, 1) := by decide +kernel
theorem dX12_isChild_1 : decode cX12_isChild 1 = .ok (.i2l, 1) := by decide +kernel
theorem dX12_isChild_2 : decode cX12_isChild 2 = .ok (.lconst 0, 1) := by decide +kernel
theorem dX12_isChild_3 : decode cX12_isChild 3 = .ok (.aload_n 0, 1) := by decide +kernel
theorem dX12_isChild_4 : decode cX12_isChild 4 = .ok (.invokevirtual 61, 3) := by decide +kernel
theorem dX12_isChild_7 : decode cX12_isChild 7 = .ok (.iconst 1, 1) := by decide +kernel
theorem dX12_isChild_8 : decode cX12_isChild 8 = .ok (.isub, 1) := by decide +kernel
theorem dX12_isChild_9 : decode cX12_isChild 9 = .ok (.i2l, 1) := by decide +kernel
theorem dX12_isChild_10 : decode cX12_isChild 10 = .ok (.invokestatic 65, 3) := by decide +kernel
theorem dX12_isChild_13 : decode cX12_isChild 13 = .ok (.ireturn, 1) := by decide +kernel
theorem dX12_isCell_0 : decode cX12_isCell 0 = .ok (.iload_n 0, 1) := by decide +kernel
theorem dX12_isCell_1 : decode cX12_isCell 1 = .ok (.i2l, 1) := by decide +kernel
theorem dX12_isCell_2 : decode cX12_isCell 2 = .ok (.lconst 0, 1) := by decide +kernel
theorem dX12_isCell_3 : decode cX12_isCell 3 = .ok (.ldc2_w 69, 3) := by decide +kernel
theorem dX12_isCell_6 : decode cX12_isCell 6 = .ok (.invokestatic 65, 3) := by decide +kernel
theorem dX12_isCell_9 : decode cX12_isCell 9 = .ok (.ireturn, 1) := by decide +kernel
theorem dX12_isMinute_0 : decode cX12_isMinute 0 = .ok (.iload_n 0, 1) := by decide +kernel
theorem dX12_isMinute_1 : decode cX12_isMinute 1 = .ok (.i2l, 1) := by decide +kernel
theorem dX12_isMinute_2 : decode cX12_isMinute 2 = .ok (.lconst 0, 1) := by decide +kernel
theorem dX12_isMinute_3 : decode cX12_isMinute 3 = .ok (.ldc2_w 71, 3) := by decide +kernel
theorem dX12_isMinute_6 : decode cX12_isMinute 6 = .ok (.invokestatic 65, 3) := by decide +kernel
theorem dX12_isMinute_9 : decode cX12_isMinute 9 = .ok (.ireturn, 1) := by decide +kernel
theorem dX12_get_0 : decode cX12_get 0 = .ok (.aload_n 0, 1) := by decide +kernel
theorem dX12_get_1 : decode cX12_get 1 = .ok (.getfield 7, 3) := by decide +kernel
theorem dX12_get_4 : decode cX12_get 4 = .ok (.bipush 6, 2) := by decide +kernel
theorem dX12_get_6 : decode cX12_get 6 = .ok (.iconst 5, 1) := by decide +kernel
theorem dX12_get_7 : decode cX12_get 7 = .ok (.iload_n 1, 1) := by decide +kernel
theorem dX12_get_8 : decode cX12_get 8 = .ok (.imul, 1) := by decide +kernel
theorem dX12_get_9 : decode cX12_get 9 = .ok (.iadd, 1) := by decide +kernel
theorem dX12_get_10 : decode cX12_get 10 = .ok (.iload_n 2, 1) := by decide +kernel
theorem dX12_get_11 : decode cX12_get 11 = .ok (.iadd, 1) := by decide +kernel
theorem dX12_get_12 : decode cX12_get 12 = .ok (.iaload, 1) := by decide +kernel
theorem dX12_get_13 : decode cX12_get 13 = .ok (.ireturn, 1) := by decide +kernel
theorem dX12_all_0 : decode cX12_all 0 = .ok (.iconst 1, 1) := by decide +kernel
theorem dX12_all_1 : decode cX12_all 1 = .ok (.aload_n 0, 1) := by decide +kernel
theorem dX12_all_2 : decode cX12_all 2 = .ok (.invokevirtual 61, 3) := by decide +kernel
theorem dX12_all_5 : decode cX12_all 5 = .ok (.ishl, 1) := by decide +kernel
theorem dX12_all_6 : decode cX12_all 6 = .ok (.iconst 1, 1) := by decide +kernel
theorem dX12_all_7 : decode cX12_all 7 = .ok (.isub, 1) := by decide +kernel
theorem dX12_all_8 : decode cX12_all 8 = .ok (.ireturn, 1) := by decide +kernel
theorem dX12_road_0 : decode cX12_road 0 = .ok (.iload_n 1, 1) := by decide +kernel
theorem dX12_road_1 : decode cX12_road 1 = .ok (.i2l, 1) := by decide +kernel
theorem dX12_road_2 : decode cX12_road 2 = .ok (.lconst 0, 1) := by decide +kernel
theorem dX12_road_3 : decode cX12_road 3 = .ok (.ldc2_w 69, 3) := by decide +kernel
theorem dX12_road_6 : decode cX12_road 6 = .ok (.invokestatic 65, 3) := by decide +kernel
theorem dX12_road_9 : decode cX12_road 9 = .ok (.ifCond .eq 15, 3) := by decide +kernel
theorem dX12_road_12 : decode cX12_road 12 = .ok (.iload_n 2, 1) := by decide +kernel
theorem dX12_road_13 : decode cX12_road 13 = .ok (.i2l, 1) := by decide +kernel
theorem dX12_road_14 : decode cX12_road 14 = .ok (.lconst 0, 1) := by decide +kernel
theorem dX12_road_15 : decode cX12_road 15 = .ok (.ldc2_w 73, 3) := by decide +kernel
theorem dX12_road_18 : decode cX12_road 18 = .ok (.invokestatic 65, 3) := by decide +kernel
theorem dX12_road_21 : decode cX12_road 21 = .ok (.ifCond .ne 10, 3) := by decide +kernel
theorem dX12_road_24 : decode cX12_road 24 = .ok (.aload_n 0, 1) := by decide +kernel
theorem dX12_road_25 : decode cX12_road 25 = .ok (.bipush (-2), 2) := by decide +kernel
theorem dX12_road_27 : decode cX12_road 27 = .ok (.invokevirtual 75, 3) := by decide +kernel
theorem dX12_road_30 : decode cX12_road 30 = .ok (.ireturn, 1) := by decide +kernel
theorem dX12_road_31 : decode cX12_road 31 = .ok (.aload_n 0, 1) := by decide +kernel
theorem dX12_road_32 : decode cX12_road 32 = .ok (.invokevirtual 61, 3) := by decide +kernel
theorem dX12_road_35 : decode cX12_road 35 = .ok (.istore_n 3, 1) := by decide +kernel
theorem dX12_road_36 : decode cX12_road 36 = .ok (.aload_n 0, 1) := by decide +kernel
theorem dX12_road_37 : decode cX12_road 37 = .ok (.getfield 7, 3) := by decide +kernel
theorem dX12_road_40 : decode cX12_road 40 = .ok (.iload_n 1, 1) := by decide +kernel
theorem dX12_road_41 : decode cX12_road 41 = .ok (.iload_n 2, 1) := by decide +kernel
theorem dX12_road_42 : decode cX12_road 42 = .ok (.invokestatic 57, 3) := by decide +kernel
theorem dX12_road_45 : decode cX12_road 45 = .ok (.iload_n 3, 1) := by decide +kernel
theorem dX12_road_46 : decode cX12_road 46 = .ok (.ireturn, 1) := by decide +kernel
theorem dX12_rule_0 : decode cX12_rule 0 = .ok (.iload_n 1, 1) := by decide +kernel
theorem dX12_rule_1 : decode cX12_rule 1 = .ok (.i2l, 1) := by decide +kernel
theorem dX12_rule_2 : decode cX12_rule 2 = .ok (.lconst 0, 1) := by decide +kernel
theorem dX12_rule_3 : decode cX12_rule 3 = .ok (.ldc2_w 73, 3) := by decide +kernel
theorem dX12_rule_6 : decode cX12_rule 6 = .ok (.invokestatic 65, 3) := by decide +kernel
theorem dX12_rule_9 : decode cX12_rule 9 = .ok (.ifCond .ne 10, 3) := by decide +kernel
theorem dX12_rule_12 : decode cX12_rule 12 = .ok (.aload_n 0, 1) := by decide +kernel
theorem dX12_rule_13 : decode cX12_rule 13 = .ok (.bipush (-2), 2) := by decide +kernel
theorem dX12_rule_15 : decode cX12_rule 15 = .ok (.invokevirtual 75, 3) := by decide +kernel
theorem dX12_rule_18 : decode cX12_rule 18 = .ok (.ireturn, 1) := by decide +kernel
theorem dX12_rule_19 : decode cX12_rule 19 = .ok (.aload_n 0, 1) := by decide +kernel
theorem dX12_rule_20 : decode cX12_rule 20 = .ok (.getfield 7, 3) := by decide +kernel
theorem dX12_rule_23 : decode cX12_rule 23 = .ok (.iconst 2, 1) := by decide +kernel
theorem dX12_rule_24 : decode cX12_rule 24 = .ok (.iaload, 1) := by decide +kernel
theorem dX12_rule_25 : decode cX12_rule 25 = .ok (.istore_n 2, 1) := by decide +kernel
theorem dX12_rule_26 : decode cX12_rule 26 = .ok (.aload_n 0, 1) := by decide +kernel
theorem dX12_rule_27 : decode cX12_rule 27 = .ok (.getfield 7, 3) := by decide +kernel
theorem dX12_rule_30 : decode cX12_rule 30 = .ok (.iconst 2, 1) := by decide +kernel
theorem dX12_rule_31 : decode cX12_rule 31 = .ok (.iload_n 1, 1) := by decide +kernel
theorem dX12_rule_32 : decode cX12_rule 32 = .ok (.iastore, 1) := by decide +kernel
theorem dX12_rule_33 : decode cX12_rule 33 = .ok (.iload_n 2, 1) := by decide +kernel
theorem dX12_rule_34 : decode cX12_rule 34 = .ok (.ireturn, 1) := by decide +kernel
theorem dX12_sight_0 : decode cX12_sight 0 = .ok (.iload_n 1, 1) := by decide +kernel
theorem dX12_sight_1 : decode cX12_sight 1 = .ok (.i2l, 1) := by decide +kernel
theorem dX12_sight_2 : decode cX12_sight 2 = .ok (.lconst 0, 1) := by decide +kernel
theorem dX12_sight_3 : decode cX12_sight 3 = .ok (.ldc2_w 69, 3) := by decide +kernel
theorem dX12_sight_6 : decode cX12_sight 6 = .ok (.invokestatic 65, 3) := by decide +kernel
theorem dX12_sight_9 : decode cX12_sight 9 = .ok (.ifCond .ne 10, 3) := by decide +kernel
theorem dX12_sight_12 : decode cX12_sight 12 = .ok (.aload_n 0, 1) := by decide +kernel
theorem dX12_sight_13 : decode cX12_sight 13 = .ok (.bipush (-2), 2) := by decide +kernel
theorem dX12_sight_15 : decode cX12_sight 15 = .ok (.invokevirtual 75, 3) := by decide +kernel
theorem dX12_sight_18 : decode cX12_sight 18 = .ok (.ireturn, 1) := by decide +kernel
theorem dX12_sight_19 : decode cX12_sight 19 = .ok (.aload_n 0, 1) := by decide +kernel
theorem dX12_sight_20 : decode cX12_sight 20 = .ok (.getfield 7, 3) := by decide +kernel
theorem dX12_sight_23 : decode cX12_sight 23 = .ok (.iconst 1, 1) := by decide +kernel
theorem dX12_sight_24 : decode cX12_sight 24 = .ok (.iaload, 1) := by decide +kernel
theorem dX12_sight_25 : decode cX12_sight 25 = .ok (.istore_n 2, 1) := by decide +kernel
theorem dX12_sight_26 : decode cX12_sight 26 = .ok (.aload_n 0, 1) := by decide +kernel
theorem dX12_sight_27 : decode cX12_sight 27 = .ok (.getfield 7, 3) := by decide +kernel
theorem dX12_sight_30 : decode cX12_sight 30 = .ok (.iconst 1, 1) := by decide +kernel
theorem dX12_sight_31 : decode cX12_sight 31 = .ok (.iload_n 1, 1) := by decide +kernel
theorem dX12_sight_32 : decode cX12_sight 32 = .ok (.iastore, 1) := by decide +kernel
theorem dX12_sight_33 : decode cX12_sight 33 = .ok (.iload_n 2, 1) := by decide +kernel
theorem dX12_sight_34 : decode cX12_sight 34 = .ok (.ireturn, 1) := by decide +kernel
theorem dX12_layChild_0 : decode cX12_layChild 0 = .ok (.bipush 6, 2) := by decide +kernel
theorem dX12_layChild_2 : decode cX12_layChild 2 = .ok (.iconst 5, 1) := by decide +kernel
theorem dX12_layChild_3 : decode cX12_layChild 3 = .ok (.aload_n 0, 1) := by decide +kernel
theorem dX12_layChild_4 : decode cX12_layChild 4 = .ok (.iconst 0, 1) := by decide +kernel
theorem dX12_layChild_5 : decode cX12_layChild 5 = .ok (.iaload, 1) := by decide +kernel
theorem dX12_layChild_6 : decode cX12_layChild 6 = .ok (.imul, 1) := by decide +kernel
theorem dX12_layChild_7 : decode cX12_layChild 7 = .ok (.iadd, 1) := by decide +kernel
theorem dX12_layChild_8 : decode cX12_layChild 8 = .ok (.istore 6, 2) := by decide +kernel
theorem dX12_layChild_10 : decode cX12_layChild 10 = .ok (.aload_n 0, 1) := by decide +kernel
theorem dX12_layChild_11 : decode cX12_layChild 11 = .ok (.iload 6, 2) := by decide +kernel
theorem dX12_layChild_13 : decode cX12_layChild 13 = .ok (.iconst 0, 1) := by decide +kernel
theorem dX12_layChild_14 : decode cX12_layChild 14 = .ok (.iadd, 1) := by decide +kernel
theorem dX12_layChild_15 : decode cX12_layChild 15 = .ok (.iload_n 1, 1) := by decide +kernel
theorem dX12_layChild_16 : decode cX12_layChild 16 = .ok (.iastore, 1) := by decide +kernel
theorem dX12_layChild_17 : decode cX12_layChild 17 = .ok (.aload_n 0, 1) := by decide +kernel
theorem dX12_layChild_18 : decode cX12_layChild 18 = .ok (.iload 6, 2) := by decide +kernel
theorem dX12_layChild_20 : decode cX12_layChild 20 = .ok (.iconst 1, 1) := by decide +kernel
theorem dX12_layChild_21 : decode cX12_layChild 21 = .ok (.iadd, 1) := by decide +kernel
theorem dX12_layChild_22 : decode cX12_layChild 22 = .ok (.iload_n 2, 1) := by decide +kernel
theorem dX12_layChild_23 : decode cX12_layChild 23 = .ok (.iastore, 1) := by decide +kernel
theorem dX12_layChild_24 : decode cX12_layChild 24 = .ok (.aload_n 0, 1) := by decide +kernel
theorem dX12_layChild_25 : decode cX12_layChild 25 = .ok (.iload 6, 2) := by decide +kernel
theorem dX12_layChild_27 : decode cX12_layChild 27 = .ok (.iconst 2, 1) := by decide +kernel
theorem dX12_layChild_28 : decode cX12_layChild 28 = .ok (.iadd, 1) := by decide +kernel
theorem dX12_layChild_29 : decode cX12_layChild 29 = .ok (.iload_n 3, 1) := by decide +kernel
theorem dX12_layChild_30 : decode cX12_layChild 30 = .ok (.iastore, 1) := by decide +kernel
theorem dX12_layChild_31 : decode cX12_layChild 31 = .ok (.aload_n 0, 1) := by decide +kernel
theorem dX12_layChild_32 : decode cX12_layChild 32 = .ok (.iload 6, 2) := by decide +kernel
theorem dX12_layChild_34 : decode cX12_layChild 34 = .ok (.iconst 3, 1) := by decide +kernel
theorem dX12_layChild_35 : decode cX12_layChild 35 = .ok (.iadd, 1) := by decide +kernel
theorem dX12_layChild_36 : decode cX12_layChild 36 = .ok (.iload 4, 2) := by decide +kernel
theorem dX12_layChild_38 : decode cX12_layChild 38 = .ok (.iastore, 1) := by decide +kernel
theorem dX12_layChild_39 : decode cX12_layChild 39 = .ok (.aload_n 0, 1) := by decide +kernel
theorem dX12_layChild_40 : decode cX12_layChild 40 = .ok (.iload 6, 2) := by decide +kernel
theorem dX12_layChild_42 : decode cX12_layChild 42 = .ok (.iconst 4, 1) := by decide +kernel
theorem dX12_layChild_43 : decode cX12_layChild 43 = .ok (.iadd, 1) := by decide +kernel
theorem dX12_layChild_44 : decode cX12_layChild 44 = .ok (.iload 5, 2) := by decide +kernel
theorem dX12_layChild_46 : decode cX12_layChild 46 = .ok (.iastore, 1) := by decide +kernel
theorem dX12_layChild_47 : decode cX12_layChild 47 = .ok (.aload_n 0, 1) := by decide +kernel
theorem dX12_layChild_48 : decode cX12_layChild 48 = .ok (.iconst 0, 1) := by decide +kernel
theorem dX12_layChild_49 : decode cX12_layChild 49 = .ok (.dup2, 1) := by decide +kernel
theorem dX12_layChild_50 : decode cX12_layChild 50 = .ok (.iaload, 1) := by decide +kernel
theorem dX12_layChild_51 : decode cX12_layChild 51 = .ok (.iconst 1, 1) := by decide +kernel
theorem dX12_layChild_52 : decode cX12_layChild 52 = .ok (.iadd, 1) := by decide +kernel
theorem dX12_layChild_53 : decode cX12_layChild 53 = .ok (.iastore, 1) := by decide +kernel
theorem dX12_layChild_54 : decode cX12_layChild 54 = .ok (.return_, 1) := by decide +kernel
theorem dX12_child_0 : decode cX12_child 0 = .ok (.iload_n 1, 1) := by decide +kernel
theorem dX12_child_1 : decode cX12_child 1 = .ok (.i2l, 1) := by decide +kernel
theorem dX12_child_2 : decode cX12_child 2 = .ok (.lconst 0, 1) := by decide +kernel
theorem dX12_child_3 : decode cX12_child 3 = .ok (.ldc2_w 79, 3) := by decide +kernel
theorem dX12_child_6 : decode cX12_child 6 = .ok (.invokestatic 65, 3) := by decide +kernel
theorem dX12_child_9 : decode cX12_child 9 = .ok (.ifCond .eq 48, 3) := by decide +kernel
theorem dX12_child_12 : decode cX12_child 12 = .ok (.iload_n 2, 1) := by decide +kernel
theorem dX12_child_13 : decode cX12_child 13 = .ok (.i2l, 1) := by decide +kernel
theorem dX12_child_14 : decode cX12_child 14 = .ok (.lconst 1, 1) := by decide +kernel
theorem dX12_child_15 : decode cX12_child 15 = .ok (.ldc2_w 81, 3) := by decide +kernel
theorem dX12_child_18 : decode cX12_child 18 = .ok (.invokestatic 65, 3) := by decide +kernel
theorem dX12_child_21 : decode cX12_child 21 = .ok (.ifCond .eq 36, 3) := by decide +kernel
theorem dX12_child_24 : decode cX12_child 24 = .ok (.iload_n 3, 1) := by decide +kernel
theorem dX12_child_25 : decode cX12_child 25 = .ok (.invokestatic 83, 3) := by decide +kernel
theorem dX12_child_28 : decode cX12_child 28 = .ok (.ifCond .eq 29, 3) := by decide +kernel
theorem dX12_child_31 : decode cX12_child 31 = .ok (.iload 4, 2) := by decide +kernel
theorem dX12_child_33 : decode cX12_child 33 = .ok (.i2l, 1) := by decide +kernel
theorem dX12_child_34 : decode cX12_child 34 = .ok (.lconst 0, 1) := by decide +kernel
theorem dX12_child_35 : decode cX12_child 35 = .ok (.ldc2_w 87, 3) := by decide +kernel
theorem dX12_child_38 : decode cX12_child 38 = .ok (.invokestatic 65, 3) := by decide +kernel
theorem dX12_child_41 : decode cX12_child 41 = .ok (.ifCond .eq 16, 3) := by decide +kernel
theorem dX12_child_44 : decode cX12_child 44 = .ok (.iload 5, 2) := by decide +kernel
theorem dX12_child_46 : decode cX12_child 46 = .ok (.i2l, 1) := by decide +kernel
theorem dX12_child_47 : decode cX12_child 47 = .ok (.lconst 0, 1) := by decide +kernel
theorem dX12_child_48 : decode cX12_child 48 = .ok (.ldc2_w 89, 3) := by decide +kernel
theorem dX12_child_51 : decode cX12_child 51 = .ok (.invokestatic 65, 3) := by decide +kernel
theorem dX12_child_54 : decode cX12_child 54 = .ok (.ifCond .ne 10, 3) := by decide +kernel
theorem dX12_child_57 : decode cX12_child 57 = .ok (.aload_n 0, 1) := by decide +kernel
theorem dX12_child_58 : decode cX12_child 58 = .ok (.bipush (-2), 2) := by decide +kernel
theorem dX12_child_60 : decode cX12_child 60 = .ok (.invokevirtual 75, 3) := by decide +kernel
theorem dX12_child_63 : decode cX12_child 63 = .ok (.ireturn, 1) := by decide +kernel
theorem dX12_child_64 : decode cX12_child 64 = .ok (.aload_n 0, 1) := by decide +kernel
theorem dX12_child_65 : decode cX12_child 65 = .ok (.invokevirtual 61, 3) := by decide +kernel
theorem dX12_child_68 : decode cX12_child 68 = .ok (.bipush 6, 2) := by decide +kernel
theorem dX12_child_70 : decode cX12_child 70 = .ok (.if_icmp .ne 8, 3) := by decide +kernel
theorem dX12_child_73 : decode cX12_child 73 = .ok (.aload_n 0, 1) := by decide +kernel
theorem dX12_child_74 : decode cX12_child 74 = .ok (.invokevirtual 91, 3) := by decide +kernel
theorem dX12_child_77 : decode cX12_child 77 = .ok (.ireturn, 1) := by decide +kernel
theorem dX12_child_78 : decode cX12_child 78 = .ok (.aload_n 0, 1) := by decide +kernel
theorem dX12_child_79 : decode cX12_child 79 = .ok (.getfield 7, 3) := by decide +kernel
theorem dX12_child_82 : decode cX12_child 82 = .ok (.iload_n 1, 1) := by decide +kernel
theorem dX12_child_83 : decode cX12_child 83 = .ok (.iload_n 2, 1) := by decide +kernel
theorem dX12_child_84 : decode cX12_child 84 = .ok (.iload_n 3, 1) := by decide +kernel
theorem dX12_child_85 : decode cX12_child 85 = .ok (.iload 4, 2) := by decide +kernel
theorem dX12_child_87 : decode cX12_child 87 = .ok (.iload 5, 2) := by decide +kernel
theorem dX12_child_89 : decode cX12_child 89 = .ok (.invokestatic 94, 3) := by decide +kernel
theorem dX12_child_92 : decode cX12_child 92 = .ok (.aload_n 0, 1) := by decide +kernel
theorem dX12_child_93 : decode cX12_child 93 = .ok (.getfield 7, 3) := by decide +kernel
theorem dX12_child_96 : decode cX12_child 96 = .ok (.iconst 5, 1) := by decide +kernel
theorem dX12_child_97 : decode cX12_child 97 = .ok (.iconst 0, 1) := by decide +kernel
theorem dX12_child_98 : decode cX12_child 98 = .ok (.iastore, 1) := by decide +kernel
theorem dX12_child_99 : decode cX12_child 99 = .ok (.aload_n 0, 1) := by decide +kernel
theorem dX12_child_100 : decode cX12_child 100 = .ok (.invokevirtual 61, 3) := by decide +kernel
theorem dX12_child_103 : decode cX12_child 103 = .ok (.iconst 1, 1) := by decide +kernel
theorem dX12_child_104 : decode cX12_child 104 = .ok (.isub, 1) := by decide +kernel
theorem dX12_child_105 : decode cX12_child 105 = .ok (.ireturn, 1) := by decide +kernel
theorem dX12_keep_0 : decode cX12_keep 0 = .ok (.aload_n 0, 1) := by decide +kernel
theorem dX12_keep_1 : decode cX12_keep 1 = .ok (.getfield 7, 3) := by decide +kernel
theorem dX12_keep_4 : decode cX12_keep 4 = .ok (.iconst 5, 1) := by decide +kernel
theorem dX12_keep_5 : decode cX12_keep 5 = .ok (.iaload, 1) := by decide +kernel
theorem dX12_keep_6 : decode cX12_keep 6 = .ok (.bipush 8, 2) := by decide +kernel
theorem dX12_keep_8 : decode cX12_keep 8 = .ok (.if_icmp .ne 43, 3) := by decide +kernel
theorem dX12_keep_11 : decode cX12_keep 11 = .ok (.iconst 0, 1) := by decide +kernel
theorem dX12_keep_12 : decode cX12_keep 12 = .ok (.istore_n 1, 1) := by decide +kernel
theorem dX12_keep_13 : decode cX12_keep 13 = .ok (.iload_n 1, 1) := by decide +kernel
theorem dX12_keep_14 : decode cX12_keep 14 = .ok (.bipush 84, 2) := by decide +kernel
theorem dX12_keep_16 : decode cX12_keep 16 = .ok (.if_icmp .ge 27, 3) := by decide +kernel
theorem dX12_keep_19 : decode cX12_keep 19 = .ok (.aload_n 0, 1) := by decide +kernel
theorem dX12_keep_20 : decode cX12_keep 20 = .ok (.getfield 7, 3) := by decide +kernel
theorem dX12_keep_23 : decode cX12_keep 23 = .ok (.bipush 74, 2) := by decide +kernel
theorem dX12_keep_25 : decode cX12_keep 25 = .ok (.iload_n 1, 1) := by decide +kernel
theorem dX12_keep_26 : decode cX12_keep 26 = .ok (.iadd, 1) := by decide +kernel
theorem dX12_keep_27 : decode cX12_keep 27 = .ok (.aload_n 0, 1) := by decide +kernel
theorem dX12_keep_28 : decode cX12_keep 28 = .ok (.getfield 7, 3) := by decide +kernel
theorem dX12_keep_31 : decode cX12_keep 31 = .ok (.bipush 86, 2) := by decide +kernel
theorem dX12_keep_33 : decode cX12_keep 33 = .ok (.iload_n 1, 1) := by decide +kernel
theorem dX12_keep_34 : decode cX12_keep 34 = .ok (.iadd, 1) := by decide +kernel
theorem dX12_keep_35 : decode cX12_keep 35 = .ok (.iaload, 1) := by decide +kernel
theorem dX12_keep_36 : decode cX12_keep 36 = .ok (.iastore, 1) := by decide +kernel
theorem dX12_keep_37 : decode cX12_keep 37 = .ok (.iinc 1 1, 3) := by decide +kernel
theorem dX12_keep_40 : decode cX12_keep 40 = .ok (.goto (-27), 3) := by decide +kernel
theorem dX12_keep_43 : decode cX12_keep 43 = .ok (.aload_n 0, 1) := by decide +kernel
theorem dX12_keep_44 : decode cX12_keep 44 = .ok (.getfield 7, 3) := by decide +kernel
theorem dX12_keep_47 : decode cX12_keep 47 = .ok (.iconst 5, 1) := by decide +kernel
theorem dX12_keep_48 : decode cX12_keep 48 = .ok (.bipush 7, 2) := by decide +kernel
theorem dX12_keep_50 : decode cX12_keep 50 = .ok (.iastore, 1) := by decide +kernel
theorem dX12_keep_51 : decode cX12_keep 51 = .ok (.bipush 74, 2) := by decide +kernel
theorem dX12_keep_53 : decode cX12_keep 53 = .ok (.bipush 12, 2) := by decide +kernel
theorem dX12_keep_55 : decode cX12_keep 55 = .ok (.aload_n 0, 1) := by decide +kernel
theorem dX12_keep_56 : decode cX12_keep 56 = .ok (.getfield 7, 3) := by decide +kernel
theorem dX12_keep_59 : decode cX12_keep 59 = .ok (.iconst 5, 1) := by decide +kernel
theorem dX12_keep_60 : decode cX12_keep 60 = .ok (.iaload, 1) := by decide +kernel
theorem dX12_keep_61 : decode cX12_keep 61 = .ok (.imul, 1) := by decide +kernel
theorem dX12_keep_62 : decode cX12_keep 62 = .ok (.iadd, 1) := by decide +kernel
theorem dX12_keep_63 : decode cX12_keep 63 = .ok (.istore_n 1, 1) := by decide +kernel
theorem dX12_keep_64 : decode cX12_keep 64 = .ok (.iconst 0, 1) := by decide +kernel
theorem dX12_keep_65 : decode cX12_keep 65 = .ok (.istore_n 2, 1) := by decide +kernel
theorem dX12_keep_66 : decode cX12_keep 66 = .ok (.iload_n 2, 1) := by decide +kernel
theorem dX12_keep_67 : decode cX12_keep 67 = .ok (.bipush 6, 2) := by decide +kernel
theorem dX12_keep_69 : decode cX12_keep 69 = .ok (.if_icmp .ge 43, 3) := by decide +kernel
theorem dX12_keep_72 : decode cX12_keep 72 = .ok (.aload_n 0, 1) := by decide +kernel
theorem dX12_keep_73 : decode cX12_keep 73 = .ok (.getfield 7, 3) := by decide +kernel
theorem dX12_keep_76 : decode cX12_keep 76 = .ok (.iload_n 1, 1) := by decide +kernel
theorem dX12_keep_77 : decode cX12_keep 77 = .ok (.iconst 2, 1) := by decide +kernel
theorem dX12_keep_78 : decode cX12_keep 78 = .ok (.iload_n 2, 1) := by decide +kernel
theorem dX12_keep_79 : decode cX12_keep 79 = .ok (.imul, 1) := by decide +kernel
theorem dX12_keep_80 : decode cX12_keep 80 = .ok (.iadd, 1) := by decide +kernel
theorem dX12_keep_81 : decode cX12_keep 81 = .ok (.aload_n 0, 1) := by decide +kernel
theorem dX12_keep_82 : decode cX12_keep 82 = .ok (.iload_n 2, 1) := by decide +kernel
theorem dX12_keep_83 : decode cX12_keep 83 = .ok (.iconst 2, 1) := by decide +kernel
theorem dX12_keep_84 : decode cX12_keep 84 = .ok (.invokevirtual 98, 3) := by decide +kernel
theorem dX12_keep_87 : decode cX12_keep 87 = .ok (.iastore, 1) := by decide +kernel
theorem dX12_keep_88 : decode cX12_keep 88 = .ok (.aload_n 0, 1) := by decide +kernel
theorem dX12_keep_89 : decode cX12_keep 89 = .ok (.getfield 7, 3) := by decide +kernel
theorem dX12_keep_92 : decode cX12_keep 92 = .ok (.iload_n 1, 1) := by decide +kernel
theorem dX12_keep_93 : decode cX12_keep 93 = .ok (.iconst 2, 1) := by decide +kernel
theorem dX12_keep_94 : decode cX12_keep 94 = .ok (.iload_n 2, 1) := by decide +kernel
theorem dX12_keep_95 : decode cX12_keep 95 = .ok (.imul, 1) := by decide +kernel
theorem dX12_keep_96 : decode cX12_keep 96 = .ok (.iadd, 1) := by decide +kernel
theorem dX12_keep_97 : decode cX12_keep 97 = .ok (.iconst 1, 1) := by decide +kernel
theorem dX12_keep_98 : decode cX12_keep 98 = .ok (.iadd, 1) := by decide +kernel
theorem dX12_keep_99 : decode cX12_keep 99 = .ok (.aload_n 0, 1) := by decide +kernel
theorem dX12_keep_100 : decode cX12_keep 100 = .ok (.iload_n 2, 1) := by decide +kernel
theorem dX12_keep_101 : decode cX12_keep 101 = .ok (.iconst 4, 1) := by decide +kernel
theorem dX12_keep_102 : decode cX12_keep 102 = .ok (.invokevirtual 98, 3) := by decide +kernel
theorem dX12_keep_105 : decode cX12_keep 105 = .ok (.iastore, 1) := by decide +kernel
theorem dX12_keep_106 : decode cX12_keep 106 = .ok (.iinc 2 1, 3) := by decide +kernel
theorem dX12_keep_109 : decode cX12_keep 109 = .ok (.goto (-43), 3) := by decide +kernel
theorem dX12_keep_112 : decode cX12_keep 112 = .ok (.aload_n 0, 1) := by decide +kernel
theorem dX12_keep_113 : decode cX12_keep 113 = .ok (.getfield 7, 3) := by decide +kernel
theorem dX12_keep_116 : decode cX12_keep 116 = .ok (.iconst 5, 1) := by decide +kernel
theorem dX12_keep_117 : decode cX12_keep 117 = .ok (.dup2, 1) := by decide +kernel
theorem dX12_keep_118 : decode cX12_keep 118 = .ok (.iaload, 1) := by decide +kernel
theorem dX12_keep_119 : decode cX12_keep 119 = .ok (.iconst 1, 1) := by decide +kernel
theorem dX12_keep_120 : decode cX12_keep 120 = .ok (.iadd, 1) := by decide +kernel
theorem dX12_keep_121 : decode cX12_keep 121 = .ok (.iastore, 1) := by decide +kernel
theorem dX12_keep_122 : decode cX12_keep 122 = .ok (.return_, 1) := by decide +kernel
theorem dX12_tellAnew_0 : decode cX12_tellAnew 0 = .ok (.aload_n 0, 1) := by decide +kernel
theorem dX12_tellAnew_1 : decode cX12_tellAnew 1 = .ok (.iload_n 1, 1) := by decide +kernel
theorem dX12_tellAnew_2 : decode cX12_tellAnew 2 = .ok (.iload_n 2, 1) := by decide +kernel
theorem dX12_tellAnew_3 : decode cX12_tellAnew 3 = .ok (.invokevirtual 98, 3) := by decide +kernel
theorem dX12_tellAnew_6 : decode cX12_tellAnew 6 = .ok (.istore 4, 2) := by decide +kernel
theorem dX12_tellAnew_8 : decode cX12_tellAnew 8 = .ok (.aload_n 0, 1) := by decide +kernel
theorem dX12_tellAnew_9 : decode cX12_tellAnew 9 = .ok (.invokevirtual 102, 3) := by decide +kernel
theorem dX12_tellAnew_12 : decode cX12_tellAnew 12 = .ok (.aload_n 0, 1) := by decide +kernel
theorem dX12_tellAnew_13 : decode cX12_tellAnew 13 = .ok (.getfield 7, 3) := by decide +kernel
theorem dX12_tellAnew_16 : decode cX12_tellAnew 16 = .ok (.bipush 6, 2) := by decide +kernel
theorem dX12_tellAnew_18 : decode cX12_tellAnew 18 = .ok (.iconst 5, 1) := by decide +kernel
theorem dX12_tellAnew_19 : decode cX12_tellAnew 19 = .ok (.iload_n 1, 1) := by decide +kernel
theorem dX12_tellAnew_20 : decode cX12_tellAnew 20 = .ok (.imul, 1) := by decide +kernel
theorem dX12_tellAnew_21 : decode cX12_tellAnew 21 = .ok (.iadd, 1) := by decide +kernel
theorem dX12_tellAnew_22 : decode cX12_tellAnew 22 = .ok (.iload_n 2, 1) := by decide +kernel
theorem dX12_tellAnew_23 : decode cX12_tellAnew 23 = .ok (.iadd, 1) := by decide +kernel
theorem dX12_tellAnew_24 : decode cX12_tellAnew 24 = .ok (.iload_n 3, 1) := by decide +kernel
theorem dX12_tellAnew_25 : decode cX12_tellAnew 25 = .ok (.iastore, 1) := by decide +kernel
theorem dX12_tellAnew_26 : decode cX12_tellAnew 26 = .ok (.iload 4, 2) := by decide +kernel
theorem dX12_tellAnew_28 : decode cX12_tellAnew 28 = .ok (.ireturn, 1) := by decide +kernel
theorem dX12_stand_0 : decode cX12_stand 0 = .ok (.aload_n 0, 1) := by decide +kernel
theorem dX12_stand_1 : decode cX12_stand 1 = .ok (.iload_n 1, 1) := by decide +kernel
theorem dX12_stand_2 : decode cX12_stand 2 = .ok (.invokevirtual 105, 3) := by decide +kernel
theorem dX12_stand_5 : decode cX12_stand 5 = .ok (.ifCond .eq 20, 3) := by decide +kernel
theorem dX12_stand_8 : decode cX12_stand 8 = .ok (.iload_n 2, 1) := by decide +kernel
theorem dX12_stand_9 : decode cX12_stand 9 = .ok (.invokestatic 83, 3) := by decide +kernel
theorem dX12_stand_12 : decode cX12_stand 12 = .ok (.ifCond .eq 13, 3) := by decide +kernel
theorem dX12_stand_15 : decode cX12_stand 15 = .ok (.aload_n 0, 1) := by decide +kernel
theorem dX12_stand_16 : decode cX12_stand 16 = .ok (.iload_n 1, 1) := by decide +kernel
theorem dX12_stand_17 : decode cX12_stand 17 = .ok (.iconst 2, 1) := by decide +kernel
theorem dX12_stand_18 : decode cX12_stand 18 = .ok (.iload_n 2, 1) := by decide +kernel
theorem dX12_stand_19 : decode cX12_stand 19 = .ok (.invokevirtual 108, 3) := by decide +kernel
theorem dX12_stand_22 : decode cX12_stand 22 = .ok (.goto 9, 3) := by decide +kernel
theorem dX12_stand_25 : decode cX12_stand 25 = .ok (.aload_n 0, 1) := by decide +kernel
theorem dX12_stand_26 : decode cX12_stand 26 = .ok (.bipush (-2), 2) := by decide +kernel
theorem dX12_stand_28 : decode cX12_stand 28 = .ok (.invokevirtual 75, 3) := by decide +kernel
theorem dX12_stand_31 : decode cX12_stand 31 = .ok (.ireturn, 1) := by decide +kernel
theorem dX12_bed_0 : decode cX12_bed 0 = .ok (.aload_n 0, 1) := by decide +kernel
theorem dX12_bed_1 : decode cX12_bed 1 = .ok (.iload_n 1, 1) := by decide +kernel
theorem dX12_bed_2 : decode cX12_bed 2 = .ok (.invokevirtual 105, 3) := by decide +kernel
theorem dX12_bed_5 : decode cX12_bed 5 = .ok (.ifCond .eq 25, 3) := by decide +kernel
theorem dX12_bed_8 : decode cX12_bed 8 = .ok (.iload_n 2, 1) := by decide +kernel
theorem dX12_bed_9 : decode cX12_bed 9 = .ok (.i2l, 1) := by decide +kernel
theorem dX12_bed_10 : decode cX12_bed 10 = .ok (.lconst 0, 1) := by decide +kernel
theorem dX12_bed_11 : decode cX12_bed 11 = .ok (.ldc2_w 89, 3) := by decide +kernel
theorem dX12_bed_14 : decode cX12_bed 14 = .ok (.invokestatic 65, 3) := by decide +kernel
theorem dX12_bed_17 : decode cX12_bed 17 = .ok (.ifCond .eq 13, 3) := by decide +kernel
theorem dX12_bed_20 : decode cX12_bed 20 = .ok (.aload_n 0, 1) := by decide +kernel
theorem dX12_bed_21 : decode cX12_bed 21 = .ok (.iload_n 1, 1) := by decide +kernel
theorem dX12_bed_22 : decode cX12_bed 22 = .ok (.iconst 4, 1) := by decide +kernel
theorem dX12_bed_23 : decode cX12_bed 23 = .ok (.iload_n 2, 1) := by decide +kernel
theorem dX12_bed_24 : decode cX12_bed 24 = .ok (.invokevirtual 108, 3) := by decide +kernel
theorem dX12_bed_27 : decode cX12_bed 27 = .ok (.goto 9, 3) := by decide +kernel
theorem dX12_bed_30 : decode cX12_bed 30 = .ok (.aload_n 0, 1) := by decide +kernel
theorem dX12_bed_31 : decode cX12_bed 31 = .ok (.bipush (-2), 2) := by decide +kernel
theorem dX12_bed_33 : decode cX12_bed 33 = .ok (.invokevirtual 75, 3) := by decide +kernel
theorem dX12_bed_36 : decode cX12_bed 36 = .ok (.ireturn, 1) := by decide +kernel
theorem dX12_undo_0 : decode cX12_undo 0 = .ok (.aload_n 0, 1) := by decide +kernel
theorem dX12_undo_1 : decode cX12_undo 1 = .ok (.getfield 7, 3) := by decide +kernel
theorem dX12_undo_4 : decode cX12_undo 4 = .ok (.iconst 5, 1) := by decide +kernel
theorem dX12_undo_5 : decode cX12_undo 5 = .ok (.iaload, 1) := by decide +kernel
theorem dX12_undo_6 : decode cX12_undo 6 = .ok (.ifCond .ne 8, 3) := by decide +kernel
theorem dX12_undo_9 : decode cX12_undo 9 = .ok (.aload_n 0, 1) := by decide +kernel
theorem dX12_undo_10 : decode cX12_undo 10 = .ok (.invokevirtual 112, 3) := by decide +kernel
theorem dX12_undo_13 : decode cX12_undo 13 = .ok (.ireturn, 1) := by decide +kernel
theorem dX12_undo_14 : decode cX12_undo 14 = .ok (.aload_n 0, 1) := by decide +kernel
theorem dX12_undo_15 : decode cX12_undo 15 = .ok (.getfield 7, 3) := by decide +kernel
theorem dX12_undo_18 : decode cX12_undo 18 = .ok (.iconst 5, 1) := by decide +kernel
theorem dX12_undo_19 : decode cX12_undo 19 = .ok (.dup2, 1) := by decide +kernel
theorem dX12_undo_20 : decode cX12_undo 20 = .ok (.iaload, 1) := by decide +kernel
theorem dX12_undo_21 : decode cX12_undo 21 = .ok (.iconst 1, 1) := by decide +kernel
theorem dX12_undo_22 : decode cX12_undo 22 = .ok (.isub, 1) := by decide +kernel
theorem dX12_undo_23 : decode cX12_undo 23 = .ok (.iastore, 1) := by decide +kernel
theorem dX12_undo_24 : decode cX12_undo 24 = .ok (.bipush 74, 2) := by decide +kernel
theorem dX12_undo_26 : decode cX12_undo 26 = .ok (.bipush 12, 2) := by decide +kernel
theorem dX12_undo_28 : decode cX12_undo 28 = .ok (.aload_n 0, 1) := by decide +kernel
theorem dX12_undo_29 : decode cX12_undo 29 = .ok (.getfield 7, 3) := by decide +kernel
theorem dX12_undo_32 : decode cX12_undo 32 = .ok (.iconst 5, 1) := by decide +kernel
theorem dX12_undo_33 : decode cX12_undo 33 = .ok (.iaload, 1) := by decide +kernel
theorem dX12_undo_34 : decode cX12_undo 34 = .ok (.imul, 1) := by decide +kernel
theorem dX12_undo_35 : decode cX12_undo 35 = .ok (.iadd, 1) := by decide +kernel
theorem dX12_undo_36 : decode cX12_undo 36 = .ok (.istore_n 1, 1) := by decide +kernel
theorem dX12_undo_37 : decode cX12_undo 37 = .ok (.iconst 0, 1) := by decide +kernel
theorem dX12_undo_38 : decode cX12_undo 38 = .ok (.istore_n 2, 1) := by decide +kernel
theorem dX12_undo_39 : decode cX12_undo 39 = .ok (.iload_n 2, 1) := by decide +kernel
theorem dX12_undo_40 : decode cX12_undo 40 = .ok (.bipush 6, 2) := by decide +kernel
theorem dX12_undo_42 : decode cX12_undo 42 = .ok (.if_icmp .ge 57, 3) := by decide +kernel
theorem dX12_undo_45 : decode cX12_undo 45 = .ok (.aload_n 0, 1) := by decide +kernel
theorem dX12_undo_46 : decode cX12_undo 46 = .ok (.getfield 7, 3) := by decide +kernel
theorem dX12_undo_49 : decode cX12_undo 49 = .ok (.bipush 6, 2) := by decide +kernel
theorem dX12_undo_51 : decode cX12_undo 51 = .ok (.iconst 5, 1) := by decide +kernel
theorem dX12_undo_52 : decode cX12_undo 52 = .ok (.iload_n 2, 1) := by decide +kernel
theorem dX12_undo_53 : decode cX12_undo 53 = .ok (.imul, 1) := by decide +kernel
theorem dX12_undo_54 : decode cX12_undo 54 = .ok (.iadd, 1) := by decide +kernel
theorem dX12_undo_55 : decode cX12_undo 55 = .ok (.iconst 2, 1) := by decide +kernel
theorem dX12_undo_56 : decode cX12_undo 56 = .ok (.iadd, 1) := by decide +kernel
theorem dX12_undo_57 : decode cX12_undo 57 = .ok (.aload_n 0, 1) := by decide +kernel
theorem dX12_undo_58 : decode cX12_undo 58 = .ok (.getfield 7, 3) := by decide +kernel
theorem dX12_undo_61 : decode cX12_undo 61 = .ok (.iload_n 1, 1) := by decide +kernel
theorem dX12_undo_62 : decode cX12_undo 62 = .ok (.iconst 2, 1) := by decide +kernel
theorem dX12_undo_63 : decode cX12_undo 63 = .ok (.iload_n 2, 1) := by decide +kernel
theorem dX12_undo_64 : decode cX12_undo 64 = .ok (.imul, 1) := by decide +kernel
theorem dX12_undo_65 : decode cX12_undo 65 = .ok (.iadd, 1) := by decide +kernel
theorem dX12_undo_66 : decode cX12_undo 66 = .ok (.iaload, 1) := by decide +kernel
theorem dX12_undo_67 : decode cX12_undo 67 = .ok (.iastore, 1) := by decide +kernel
theorem dX12_undo_68 : decode cX12_undo 68 = .ok (.aload_n 0, 1) := by decide +kernel
theorem dX12_undo_69 : decode cX12_undo 69 = .ok (.getfield 7, 3) := by decide +kernel
theorem dX12_undo_72 : decode cX12_undo 72 = .ok (.bipush 6, 2) := by decide +kernel
theorem dX12_undo_74 : decode cX12_undo 74 = .ok (.iconst 5, 1) := by decide +kernel
theorem dX12_undo_75 : decode cX12_undo 75 = .ok (.iload_n 2, 1) := by decide +kernel
theorem dX12_undo_76 : decode cX12_undo 76 = .ok (.imul, 1) := by decide +kernel
theorem dX12_undo_77 : decode cX12_undo 77 = .ok (.iadd, 1) := by decide +kernel
theorem dX12_undo_78 : decode cX12_undo 78 = .ok (.iconst 4, 1) := by decide +kernel
theorem dX12_undo_79 : decode cX12_undo 79 = .ok (.iadd, 1) := by decide +kernel
theorem dX12_undo_80 : decode cX12_undo 80 = .ok (.aload_n 0, 1) := by decide +kernel
theorem dX12_undo_81 : decode cX12_undo 81 = .ok (.getfield 7, 3) := by decide +kernel
theorem dX12_undo_84 : decode cX12_undo 84 = .ok (.iload_n 1, 1) := by decide +kernel
theorem dX12_undo_85 : decode cX12_undo 85 = .ok (.iconst 2, 1) := by decide +kernel
theorem dX12_undo_86 : decode cX12_undo 86 = .ok (.iload_n 2, 1) := by decide +kernel
theorem dX12_undo_87 : decode cX12_undo 87 = .ok (.imul, 1) := by decide +kernel
theorem dX12_undo_88 : decode cX12_undo 88 = .ok (.iadd, 1) := by decide +kernel
theorem dX12_undo_89 : decode cX12_undo 89 = .ok (.iconst 1, 1) := by decide +kernel
theorem dX12_undo_90 : decode cX12_undo 90 = .ok (.iadd, 1) := by decide +kernel
theorem dX12_undo_91 : decode cX12_undo 91 = .ok (.iaload, 1) := by decide +kernel
theorem dX12_undo_92 : decode cX12_undo 92 = .ok (.iastore, 1) := by decide +kernel
theorem dX12_undo_93 : decode cX12_undo 93 = .ok (.iinc 2 1, 3) := by decide +kernel
theorem dX12_undo_96 : decode cX12_undo 96 = .ok (.goto (-57), 3) := by decide +kernel
theorem dX12_undo_99 : decode cX12_undo 99 = .ok (.aload_n 0, 1) := by decide +kernel
theorem dX12_undo_100 : decode cX12_undo 100 = .ok (.getfield 7, 3) := by decide +kernel
theorem dX12_undo_103 : decode cX12_undo 103 = .ok (.iconst 5, 1) := by decide +kernel
theorem dX12_undo_104 : decode cX12_undo 104 = .ok (.iaload, 1) := by decide +kernel
theorem dX12_undo_105 : decode cX12_undo 105 = .ok (.ireturn, 1) := by decide +kernel
theorem dX12_layHand_0 : decode cX12_layHand 0 = .ok (.iconst 0, 1) := by decide +kernel
theorem dX12_layHand_1 : decode cX12_layHand 1 = .ok (.istore_n 2, 1) := by decide +kernel
theorem dX12_layHand_2 : decode cX12_layHand 2 = .ok (.iload_n 2, 1) := by decide +kernel
theorem dX12_layHand_3 : decode cX12_layHand 3 = .ok (.aload_n 0, 1) := by decide +kernel
theorem dX12_layHand_4 : decode cX12_layHand 4 = .ok (.invokevirtual 61, 3) := by decide +kernel
theorem dX12_layHand_7 : decode cX12_layHand 7 = .ok (.if_icmp .ge 33, 3) := by decide +kernel
theorem dX12_layHand_10 : decode cX12_layHand 10 = .ok (.aload_n 0, 1) := by decide +kernel
theorem dX12_layHand_11 : decode cX12_layHand 11 = .ok (.getfield 27, 3) := by decide +kernel
theorem dX12_layHand_14 : decode cX12_layHand 14 = .ok (.iload_n 2, 1) := by decide +kernel
theorem dX12_layHand_15 : decode cX12_layHand 15 = .ok (.aload_n 0, 1) := by decide +kernel
theorem dX12_layHand_16 : decode cX12_layHand 16 = .ok (.iload_n 2, 1) := by decide +kernel
theorem dX12_layHand_17 : decode cX12_layHand 17 = .ok (.iconst 0, 1) := by decide +kernel
theorem dX12_layHand_18 : decode cX12_layHand 18 = .ok (.invokevirtual 98, 3) := by decide +kernel
theorem dX12_layHand_21 : decode cX12_layHand 21 = .ok (.iastore, 1) := by decide +kernel
theorem dX12_layHand_22 : decode cX12_layHand 22 = .ok (.aload_n 0, 1) := by decide +kernel
theorem dX12_layHand_23 : decode cX12_layHand 23 = .ok (.getfield 30, 3) := by decide +kernel
theorem dX12_layHand_26 : decode cX12_layHand 26 = .ok (.iload_n 2, 1) := by decide +kernel
theorem dX12_layHand_27 : decode cX12_layHand 27 = .ok (.aload_n 0, 1) := by decide +kernel
theorem dX12_layHand_28 : decode cX12_layHand 28 = .ok (.iload_n 2, 1) := by decide +kernel
theorem dX12_layHand_29 : decode cX12_layHand 29 = .ok (.iconst 2, 1) := by decide +kernel
theorem dX12_layHand_30 : decode cX12_layHand 30 = .ok (.invokevirtual 98, 3) := by decide +kernel
theorem dX12_layHand_33 : decode cX12_layHand 33 = .ok (.iastore, 1) := by decide +kernel
theorem dX12_layHand_34 : decode cX12_layHand 34 = .ok (.iinc 2 1, 3) := by decide +kernel
theorem dX12_layHand_37 : decode cX12_layHand 37 = .ok (.goto (-35), 3) := by decide +kernel
theorem dX12_layHand_40 : decode cX12_layHand 40 = .ok (.aload_n 0, 1) := by decide +kernel
theorem dX12_layHand_41 : decode cX12_layHand 41 = .ok (.iload_n 1, 1) := by decide +kernel
theorem dX12_layHand_42 : decode cX12_layHand 42 = .ok (.putfield 115, 3) := by decide +kernel
theorem dX12_layHand_45 : decode cX12_layHand 45 = .ok (.return_, 1) := by decide +kernel
theorem dX12_cellOf_0 : decode cX12_cellOf 0 = .ok (.aload_n 0, 1) := by decide +kernel
theorem dX12_cellOf_1 : decode cX12_cellOf 1 = .ok (.getfield 27, 3) := by decide +kernel
theorem dX12_cellOf_4 : decode cX12_cellOf 4 = .ok (.iload_n 1, 1) := by decide +kernel
theorem dX12_cellOf_5 : decode cX12_cellOf 5 = .ok (.iaload, 1) := by decide +kernel
theorem dX12_cellOf_6 : decode cX12_cellOf 6 = .ok (.iconst 2, 1) := by decide +kernel
theorem dX12_cellOf_7 : decode cX12_cellOf 7 = .ok (.if_icmp .eq 13, 3) := by decide +kernel
theorem dX12_cellOf_10 : decode cX12_cellOf 10 = .ok (.aload_n 0, 1) := by decide +kernel
theorem dX12_cellOf_11 : decode cX12_cellOf 11 = .ok (.getfield 27, 3) := by decide +kernel
theorem dX12_cellOf_14 : decode cX12_cellOf 14 = .ok (.iload_n 1, 1) := by decide +kernel
theorem dX12_cellOf_15 : decode cX12_cellOf 15 = .ok (.iaload, 1) := by decide +kernel
theorem dX12_cellOf_16 : decode cX12_cellOf 16 = .ok (.iconst 5, 1) := by decide +kernel
theorem dX12_cellOf_17 : decode cX12_cellOf 17 = .ok (.if_icmp .ne 7, 3) := by decide +kernel
theorem dX12_cellOf_20 : decode cX12_cellOf 20 = .ok (.iconst 1, 1) := by decide +kernel
theorem dX12_cellOf_21 : decode cX12_cellOf 21 = .ok (.goto 4, 3) := by decide +kernel
theorem dX12_cellOf_24 : decode cX12_cellOf 24 = .ok (.iconst 0, 1) := by decide +kernel
theorem dX12_cellOf_25 : decode cX12_cellOf 25 = .ok (.istore_n 3, 1) := by decide +kernel
theorem dX12_cellOf_26 : decode cX12_cellOf 26 = .ok (.aload_n 0, 1) := by decide +kernel
theorem dX12_cellOf_27 : decode cX12_cellOf 27 = .ok (.getfield 30, 3) := by decide +kernel
theorem dX12_cellOf_30 : decode cX12_cellOf 30 = .ok (.iload_n 1, 1) := by decide +kernel
theorem dX12_cellOf_31 : decode cX12_cellOf 31 = .ok (.iaload, 1) := by decide +kernel
theorem dX12_cellOf_32 : decode cX12_cellOf 32 = .ok (.aload_n 0, 1) := by decide +kernel
theorem dX12_cellOf_33 : decode cX12_cellOf 33 = .ok (.iload_n 1, 1) := by decide +kernel
theorem dX12_cellOf_34 : decode cX12_cellOf 34 = .ok (.iconst 3, 1) := by decide +kernel
theorem dX12_cellOf_35 : decode cX12_cellOf 35 = .ok (.invokevirtual 98, 3) := by decide +kernel
theorem dX12_cellOf_38 : decode cX12_cellOf 38 = .ok (.iload_n 3, 1) := by decide +kernel
theorem dX12_cellOf_39 : decode cX12_cellOf 39 = .ok (.ifCond .eq 9, 3) := by decide +kernel
theorem dX12_cellOf_42 : decode cX12_cellOf 42 = .ok (.iload_n 2, 1) := by decide +kernel
theorem dX12_cellOf_43 : decode cX12_cellOf 43 = .ok (.iconst 2, 1) := by decide +kernel
theorem dX12_cellOf_44 : decode cX12_cellOf 44 = .ok (.irem, 1) := by decide +kernel
theorem dX12_cellOf_45 : decode cX12_cellOf 45 = .ok (.goto 4, 3) := by decide +kernel
theorem dX12_cellOf_48 : decode cX12_cellOf 48 = .ok (.iload_n 2, 1) := by decide +kernel
theorem dX12_cellOf_49 : decode cX12_cellOf 49 = .ok (.imul, 1) := by decide +kernel
theorem dX12_cellOf_50 : decode cX12_cellOf 50 = .ok (.iadd, 1) := by decide +kernel
theorem dX12_cellOf_51 : decode cX12_cellOf 51 = .ok (.istore 4, 2) := by decide +kernel
theorem dX12_cellOf_53 : decode cX12_cellOf 53 = .ok (.iload 4, 2) := by decide +kernel
theorem dX12_cellOf_55 : decode cX12_cellOf 55 = .ok (.bipush 47, 2) := by decide +kernel
theorem dX12_cellOf_57 : decode cX12_cellOf 57 = .ok (.if_icmp .le 8, 3) := by decide +kernel
theorem dX12_cellOf_60 : decode cX12_cellOf 60 = .ok (.bipush 47, 2) := by decide +kernel
theorem dX12_cellOf_62 : decode cX12_cellOf 62 = .ok (.goto 5, 3) := by decide +kernel
theorem dX12_cellOf_65 : decode cX12_cellOf 65 = .ok (.iload 4, 2) := by decide +kernel
theorem dX12_cellOf_67 : decode cX12_cellOf 67 = .ok (.ireturn, 1) := by decide +kernel
theorem dX12_least_0 : decode cX12_least 0 = .ok (.iload_n 0, 1) := by decide +kernel
theorem dX12_least_1 : decode cX12_least 1 = .ok (.iload_n 1, 1) := by decide +kernel
theorem dX12_least_2 : decode cX12_least 2 = .ok (.if_icmp .ge 7, 3) := by decide +kernel
theorem dX12_least_5 : decode cX12_least 5 = .ok (.iload_n 0, 1) := by decide +kernel
theorem dX12_least_6 : decode cX12_least 6 = .ok (.goto 4, 3) := by decide +kernel
theorem dX12_least_9 : decode cX12_least 9 = .ok (.iload_n 1, 1) := by decide +kernel
theorem dX12_least_10 : decode cX12_least 10 = .ok (.ireturn, 1) := by decide +kernel
theorem dX12_most_0 : decode cX12_most 0 = .ok (.iload_n 0, 1) := by decide +kernel
theorem dX12_most_1 : decode cX12_most 1 = .ok (.iload_n 1, 1) := by decide +kernel
theorem dX12_most_2 : decode cX12_most 2 = .ok (.if_icmp .le 7, 3) := by decide +kernel
theorem dX12_most_5 : decode cX12_most 5 = .ok (.iload_n 0, 1) := by decide +kernel
theorem dX12_most_6 : decode cX12_most 6 = .ok (.goto 4, 3) := by decide +kernel
theorem dX12_most_9 : decode cX12_most 9 = .ok (.iload_n 1, 1) := by decide +kernel
theorem dX12_most_10 : decode cX12_most 10 = .ok (.ireturn, 1) := by decide +kernel
theorem dX12_countsOf_0 : decode cX12_countsOf 0 = .ok (.aload_n 0, 1) := by decide +kernel
theorem dX12_countsOf_1 : decode cX12_countsOf 1 = .ok (.iload_n 1, 1) := by decide +kernel
theorem dX12_countsOf_2 : decode cX12_countsOf 2 = .ok (.iconst 1, 1) := by decide +kernel
theorem dX12_countsOf_3 : decode cX12_countsOf 3 = .ok (.invokevirtual 98, 3) := by decide +kernel
theorem dX12_countsOf_6 : decode cX12_countsOf 6 = .ok (.istore_n 3, 1) := by decide +kernel
theorem dX12_countsOf_7 : decode cX12_countsOf 7 = .ok (.bipush 9, 2) := by decide +kernel
theorem dX12_countsOf_9 : decode cX12_countsOf 9 = .ok (.iload_n 3, 1) := by decide +kernel
theorem dX12_countsOf_10 : decode cX12_countsOf 10 = .ok (.iconst 2, 1) := by decide +kernel
theorem dX12_countsOf_11 : decode cX12_countsOf 11 = .ok (.iadd, 1) := by decide +kernel
theorem dX12_countsOf_12 : decode cX12_countsOf 12 = .ok (.invokestatic 119, 3) := by decide +kernel
theorem dX12_countsOf_15 : decode cX12_countsOf 15 = .ok (.istore 4, 2) := by decide +kernel
theorem dX12_countsOf_17 : decode cX12_countsOf 17 = .ok (.aload_n 0, 1) := by decide +kernel
theorem dX12_countsOf_18 : decode cX12_countsOf 18 = .ok (.getfield 27, 3) := by decide +kernel
theorem dX12_countsOf_21 : decode cX12_countsOf 21 = .ok (.iload_n 1, 1) := by decide +kernel
theorem dX12_countsOf_22 : decode cX12_countsOf 22 = .ok (.iaload, 1) := by decide +kernel
theorem dX12_countsOf_23 : decode cX12_countsOf 23 = .ok (.iconst 1, 1) := by decide +kernel
theorem dX12_countsOf_24 : decode cX12_countsOf 24 = .ok (.if_icmp .ne 8, 3) := by decide +kernel
theorem dX12_countsOf_27 : decode cX12_countsOf 27 = .ok (.iload 4, 2) := by decide +kernel
theorem dX12_countsOf_29 : decode cX12_countsOf 29 = .ok (.goto 49, 3) := by decide +kernel
theorem dX12_countsOf_32 : decode cX12_countsOf 32 = .ok (.aload_n 0, 1) := by decide +kernel
theorem dX12_countsOf_33 : decode cX12_countsOf 33 = .ok (.getfield 27, 3) := by decide +kernel
theorem dX12_countsOf_36 : decode cX12_countsOf 36 = .ok (.iload_n 1, 1) := by decide +kernel
theorem dX12_countsOf_37 : decode cX12_countsOf 37 = .ok (.iaload, 1) := by decide +kernel
theorem dX12_countsOf_38 : decode cX12_countsOf 38 = .ok (.iconst 3, 1) := by decide +kernel
theorem dX12_countsOf_39 : decode cX12_countsOf 39 = .ok (.if_icmp .ne 14, 3) := by decide +kernel
theorem dX12_countsOf_42 : decode cX12_countsOf 42 = .ok (.iconst 1, 1) := by decide +kernel
theorem dX12_countsOf_43 : decode cX12_countsOf 43 = .ok (.iload 4, 2) := by decide +kernel
theorem dX12_countsOf_45 : decode cX12_countsOf 45 = .ok (.iconst 2, 1) := by decide +kernel
theorem dX12_countsOf_46 : decode cX12_countsOf 46 = .ok (.idiv, 1) := by decide +kernel
theorem dX12_countsOf_47 : decode cX12_countsOf 47 = .ok (.invokestatic 122, 3) := by decide +kernel
theorem dX12_countsOf_50 : decode cX12_countsOf 50 = .ok (.goto 28, 3) := by decide +kernel
theorem dX12_countsOf_53 : decode cX12_countsOf 53 = .ok (.aload_n 0, 1) := by decide +kernel
theorem dX12_countsOf_54 : decode cX12_countsOf 54 = .ok (.getfield 27, 3) := by decide +kernel
theorem dX12_countsOf_57 : decode cX12_countsOf 57 = .ok (.iload_n 1, 1) := by decide +kernel
theorem dX12_countsOf_58 : decode cX12_countsOf 58 = .ok (.iaload, 1) := by decide +kernel
theorem dX12_countsOf_59 : decode cX12_countsOf 59 = .ok (.iconst 4, 1) := by decide +kernel
theorem dX12_countsOf_60 : decode cX12_countsOf 60 = .ok (.if_icmp .ne 17, 3) := by decide +kernel
theorem dX12_countsOf_63 : decode cX12_countsOf 63 = .ok (.bipush 9, 2) := by decide +kernel
theorem dX12_countsOf_65 : decode cX12_countsOf 65 = .ok (.iload_n 3, 1) := by decide +kernel
theorem dX12_countsOf_66 : decode cX12_countsOf 66 = .ok (.iload_n 2, 1) := by decide +kernel
theorem dX12_countsOf_67 : decode cX12_countsOf 67 = .ok (.bipush 15, 2) := by decide +kernel
theorem dX12_countsOf_69 : decode cX12_countsOf 69 = .ok (.idiv, 1) := by decide +kernel
theorem dX12_countsOf_70 : decode cX12_countsOf 70 = .ok (.iadd, 1) := by decide +kernel
theorem dX12_countsOf_71 : decode cX12_countsOf 71 = .ok (.invokestatic 119, 3) := by decide +kernel
theorem dX12_countsOf_74 : decode cX12_countsOf 74 = .ok (.goto 4, 3) := by decide +kernel
theorem dX12_countsOf_77 : decode cX12_countsOf 77 = .ok (.iload_n 3, 1) := by decide +kernel
theorem dX12_countsOf_78 : decode cX12_countsOf 78 = .ok (.ireturn, 1) := by decide +kernel
theorem dX12_isOut_0 : decode cX12_isOut 0 = .ok (.aload_n 0, 1) := by decide +kernel
theorem dX12_isOut_1 : decode cX12_isOut 1 = .ok (.getfield 115, 3) := by decide +kernel
theorem dX12_isOut_4 : decode cX12_isOut 4 = .ok (.iload_n 1, 1) := by decide +kernel
theorem dX12_isOut_5 : decode cX12_isOut 5 = .ok (.ishr, 1) := by decide +kernel
theorem dX12_isOut_6 : decode cX12_isOut 6 = .ok (.iconst 1, 1) := by decide +kernel
theorem dX12_isOut_7 : decode cX12_isOut 7 = .ok (.iand, 1) := by decide +kernel
theorem dX12_isOut_8 : decode cX12_isOut 8 = .ok (.iconst 1, 1) := by decide +kernel
theorem dX12_isOut_9 : decode cX12_isOut 9 = .ok (.if_icmp .ne 33, 3) := by decide +kernel
theorem dX12_isOut_12 : decode cX12_isOut 12 = .ok (.iload_n 2, 1) := by decide +kernel
theorem dX12_isOut_13 : decode cX12_isOut 13 = .ok (.aload_n 0, 1) := by decide +kernel
theorem dX12_isOut_14 : decode cX12_isOut 14 = .ok (.iload_n 1, 1) := by decide +kernel
theorem dX12_isOut_15 : decode cX12_isOut 15 = .ok (.iconst 4, 1) := by decide +kernel
theorem dX12_isOut_16 : decode cX12_isOut 16 = .ok (.invokevirtual 98, 3) := by decide +kernel
theorem dX12_isOut_19 : decode cX12_isOut 19 = .ok (.if_icmp .ge 23, 3) := by decide +kernel
theorem dX12_isOut_22 : decode cX12_isOut 22 = .ok (.aload_n 0, 1) := by decide +kernel
theorem dX12_isOut_23 : decode cX12_isOut 23 = .ok (.getfield 27, 3) := by decide +kernel
theorem dX12_isOut_26 : decode cX12_isOut 26 = .ok (.iload_n 1, 1) := by decide +kernel
theorem dX12_isOut_27 : decode cX12_isOut 27 = .ok (.iaload, 1) := by decide +kernel
theorem dX12_isOut_28 : decode cX12_isOut 28 = .ok (.iconst 5, 1) := by decide +kernel
theorem dX12_isOut_29 : decode cX12_isOut 29 = .ok (.if_icmp .ne 9, 3) := by decide +kernel
theorem dX12_isOut_32 : decode cX12_isOut 32 = .ok (.iload_n 2, 1) := by decide +kernel
theorem dX12_isOut_33 : decode cX12_isOut 33 = .ok (.bipush 20, 2) := by decide +kernel
theorem dX12_isOut_35 : decode cX12_isOut 35 = .ok (.if_icmp .ge 7, 3) := by decide +kernel
theorem dX12_isOut_38 : decode cX12_isOut 38 = .ok (.iconst 1, 1) := by decide +kernel
theorem dX12_isOut_39 : decode cX12_isOut 39 = .ok (.goto 4, 3) := by decide +kernel
theorem dX12_isOut_42 : decode cX12_isOut 42 = .ok (.iconst 0, 1) := by decide +kernel
theorem dX12_isOut_43 : decode cX12_isOut 43 = .ok (.ireturn, 1) := by decide +kernel
theorem dX12_apart_0 : decode cX12_apart 0 = .ok (.iload_n 0, 1) := by decide +kernel
theorem dX12_apart_1 : decode cX12_apart 1 = .ok (.iload_n 1, 1) := by decide +kernel
theorem dX12_apart_2 : decode cX12_apart 2 = .ok (.if_icmp .le 9, 3) := by decide +kernel
theorem dX12_apart_5 : decode cX12_apart 5 = .ok (.iload_n 0, 1) := by decide +kernel
theorem dX12_apart_6 : decode cX12_apart 6 = .ok (.iload_n 1, 1) := by decide +kernel
theorem dX12_apart_7 : decode cX12_apart 7 = .ok (.isub, 1) := by decide +kernel
theorem dX12_apart_8 : decode cX12_apart 8 = .ok (.goto 6, 3) := by decide +kernel
theorem dX12_apart_11 : decode cX12_apart 11 = .ok (.iload_n 1, 1) := by decide +kernel
theorem dX12_apart_12 : decode cX12_apart 12 = .ok (.iload_n 0, 1) := by decide +kernel
theorem dX12_apart_13 : decode cX12_apart 13 = .ok (.isub, 1) := by decide +kernel
theorem dX12_apart_14 : decode cX12_apart 14 = .ok (.ireturn, 1) := by decide +kernel
theorem dX12_isSeen_0 : decode cX12_isSeen 0 = .ok (.aload_n 0, 1) := by decide +kernel
theorem dX12_isSeen_1 : decode cX12_isSeen 1 = .ok (.iload_n 1, 1) := by decide +kernel
theorem dX12_isSeen_2 : decode cX12_isSeen 2 = .ok (.iload_n 3, 1) := by decide +kernel
theorem dX12_isSeen_3 : decode cX12_isSeen 3 = .ok (.invokevirtual 125, 3) := by decide +kernel
theorem dX12_isSeen_6 : decode cX12_isSeen 6 = .ok (.ifCond .eq 26, 3) := by decide +kernel
theorem dX12_isSeen_9 : decode cX12_isSeen 9 = .ok (.aload_n 0, 1) := by decide +kernel
theorem dX12_isSeen_10 : decode cX12_isSeen 10 = .ok (.iload_n 1, 1) := by decide +kernel
theorem dX12_isSeen_11 : decode cX12_isSeen 11 = .ok (.iload_n 3, 1) := by decide +kernel
theorem dX12_isSeen_12 : decode cX12_isSeen 12 = .ok (.invokevirtual 129, 3) := by decide +kernel
theorem dX12_isSeen_15 : decode cX12_isSeen 15 = .ok (.iload_n 2, 1) := by decide +kernel
theorem dX12_isSeen_16 : decode cX12_isSeen 16 = .ok (.invokestatic 132, 3) := by decide +kernel
theorem dX12_isSeen_19 : decode cX12_isSeen 19 = .ok (.aload_n 0, 1) := by decide +kernel
theorem dX12_isSeen_20 : decode cX12_isSeen 20 = .ok (.getfield 7, 3) := by decide +kernel
theorem dX12_isSeen_23 : decode cX12_isSeen 23 = .ok (.iconst 1, 1) := by decide +kernel
theorem dX12_isSeen_24 : decode cX12_isSeen 24 = .ok (.iaload, 1) := by decide +kernel
theorem dX12_isSeen_25 : decode cX12_isSeen 25 = .ok (.if_icmp .gt 7, 3) := by decide +kernel
theorem dX12_isSeen_28 : decode cX12_isSeen 28 = .ok (.iconst 1, 1) := by decide +kernel
theorem dX12_isSeen_29 : decode cX12_isSeen 29 = .ok (.goto 4, 3) := by decide +kernel
theorem dX12_isSeen_32 : decode cX12_isSeen 32 = .ok (.iconst 0, 1) := by decide +kernel
theorem dX12_isSeen_33 : decode cX12_isSeen 33 = .ok (.ireturn, 1) := by decide +kernel
theorem dX12_nearest_0 : decode cX12_nearest 0 = .ok (.iconst (-1), 1) := by decide +kernel
theorem dX12_nearest_1 : decode cX12_nearest 1 = .ok (.istore 4, 2) := by decide +kernel
theorem dX12_nearest_3 : decode cX12_nearest 3 = .ok (.iconst 0, 1) := by decide +kernel
theorem dX12_nearest_4 : decode cX12_nearest 4 = .ok (.istore 5, 2) := by decide +kernel
theorem dX12_nearest_6 : decode cX12_nearest 6 = .ok (.iload 5, 2) := by decide +kernel
theorem dX12_nearest_8 : decode cX12_nearest 8 = .ok (.aload_n 0, 1) := by decide +kernel
theorem dX12_nearest_9 : decode cX12_nearest 9 = .ok (.invokevirtual 61, 3) := by decide +kernel
theorem dX12_nearest_12 : decode cX12_nearest 12 = .ok (.if_icmp .ge 115, 3) := by decide +kernel
theorem dX12_nearest_15 : decode cX12_nearest 15 = .ok (.iload 5, 2) := by decide +kernel
theorem dX12_nearest_17 : decode cX12_nearest 17 = .ok (.iload_n 3, 1) := by decide +kernel
theorem dX12_nearest_18 : decode cX12_nearest 18 = .ok (.if_icmp .eq 103, 3) := by decide +kernel
theorem dX12_nearest_21 : decode cX12_nearest 21 = .ok (.aload_n 0, 1) := by decide +kernel
theorem dX12_nearest_22 : decode cX12_nearest 22 = .ok (.iload 5, 2) := by decide +kernel
theorem dX12_nearest_24 : decode cX12_nearest 24 = .ok (.iload_n 1, 1) := by decide +kernel
theorem dX12_nearest_25 : decode cX12_nearest 25 = .ok (.iload_n 2, 1) := by decide +kernel
theorem dX12_nearest_26 : decode cX12_nearest 26 = .ok (.invokevirtual 135, 3) := by decide +kernel
theorem dX12_nearest_29 : decode cX12_nearest 29 = .ok (.ifCond .eq 92, 3) := by decide +kernel
theorem dX12_nearest_32 : decode cX12_nearest 32 = .ok (.aload_n 0, 1) := by decide +kernel
theorem dX12_nearest_33 : decode cX12_nearest 33 = .ok (.iload 5, 2) := by decide +kernel
theorem dX12_nearest_35 : decode cX12_nearest 35 = .ok (.iload_n 2, 1) := by decide +kernel
theorem dX12_nearest_36 : decode cX12_nearest 36 = .ok (.invokevirtual 129, 3) := by decide +kernel
theorem dX12_nearest_39 : decode cX12_nearest 39 = .ok (.iload_n 1, 1) := by decide +kernel
theorem dX12_nearest_40 : decode cX12_nearest 40 = .ok (.invokestatic 132, 3) := by decide +kernel
theorem dX12_nearest_43 : decode cX12_nearest 43 = .ok (.istore 6, 2) := by decide +kernel
theorem dX12_nearest_45 : decode cX12_nearest 45 = .ok (.iload 4, 2) := by decide +kernel
theorem dX12_nearest_47 : decode cX12_nearest 47 = .ok (.iconst (-1), 1) := by decide +kernel
theorem dX12_nearest_48 : decode cX12_nearest 48 = .ok (.if_icmp .ne 8, 3) := by decide +kernel
theorem dX12_nearest_51 : decode cX12_nearest 51 = .ok (.ldc 139, 2) := by decide +kernel
theorem dX12_nearest_53 : decode cX12_nearest 53 = .ok (.goto 14, 3) := by decide +kernel
theorem dX12_nearest_56 : decode cX12_nearest 56 = .ok (.aload_n 0, 1) := by decide +kernel
theorem dX12_nearest_57 : decode cX12_nearest 57 = .ok (.iload 4, 2) := by decide +kernel
theorem dX12_nearest_59 : decode cX12_nearest 59 = .ok (.iload_n 2, 1) := by decide +kernel
theorem dX12_nearest_60 : decode cX12_nearest 60 = .ok (.invokevirtual 129, 3) := by decide +kernel
theorem dX12_nearest_63 : decode cX12_nearest 63 = .ok (.iload_n 1, 1) := by decide +kernel
theorem dX12_nearest_64 : decode cX12_nearest 64 = .ok (.invokestatic 132, 3) := by decide +kernel
theorem dX12_nearest_67 : decode cX12_nearest 67 = .ok (.istore 7, 2) := by decide +kernel
theorem dX12_nearest_69 : decode cX12_nearest 69 = .ok (.iload 6, 2) := by decide +kernel
theorem dX12_nearest_71 : decode cX12_nearest 71 = .ok (.iload 7, 2) := by decide +kernel
theorem dX12_nearest_73 : decode cX12_nearest 73 = .ok (.if_icmp .lt 27, 3) := by decide +kernel
theorem dX12_nearest_76 : decode cX12_nearest 76 = .ok (.iload 6, 2) := by decide +kernel
theorem dX12_nearest_78 : decode cX12_nearest 78 = .ok (.iload 7, 2) := by decide +kernel
theorem dX12_nearest_80 : decode cX12_nearest 80 = .ok (.if_icmp .ne 24, 3) := by decide +kernel
theorem dX12_nearest_83 : decode cX12_nearest 83 = .ok (.aload_n 0, 1) := by decide +kernel
theorem dX12_nearest_84 : decode cX12_nearest 84 = .ok (.iload 5, 2) := by decide +kernel
theorem dX12_nearest_86 : decode cX12_nearest 86 = .ok (.iload_n 2, 1) := by decide +kernel
theorem dX12_nearest_87 : decode cX12_nearest 87 = .ok (.invokevirtual 140, 3) := by decide +kernel
theorem dX12_nearest_90 : decode cX12_nearest 90 = .ok (.aload_n 0, 1) := by decide +kernel
theorem dX12_nearest_91 : decode cX12_nearest 91 = .ok (.iload 4, 2) := by decide +kernel
theorem dX12_nearest_93 : decode cX12_nearest 93 = .ok (.iload_n 2, 1) := by decide +kernel
theorem dX12_nearest_94 : decode cX12_nearest 94 = .ok (.invokevirtual 140, 3) := by decide +kernel
theorem dX12_nearest_97 : decode cX12_nearest 97 = .ok (.if_icmp .ge 7, 3) := by decide +kernel
theorem dX12_nearest_100 : decode cX12_nearest 100 = .ok (.iconst 1, 1) := by decide +kernel
theorem dX12_nearest_101 : decode cX12_nearest 101 = .ok (.goto 4, 3) := by decide +kernel
theorem dX12_nearest_104 : decode cX12_nearest 104 = .ok (.iconst 0, 1) := by decide +kernel
theorem dX12_nearest_105 : decode cX12_nearest 105 = .ok (.istore 8, 2) := by decide +kernel
theorem dX12_nearest_107 : decode cX12_nearest 107 = .ok (.iload 8, 2) := by decide +kernel
theorem dX12_nearest_109 : decode cX12_nearest 109 = .ok (.ifCond .eq 8, 3) := by decide +kernel
theorem dX12_nearest_112 : decode cX12_nearest 112 = .ok (.iload 5, 2) := by decide +kernel
theorem dX12_nearest_114 : decode cX12_nearest 114 = .ok (.goto 5, 3) := by decide +kernel
theorem dX12_nearest_117 : decode cX12_nearest 117 = .ok (.iload 4, 2) := by decide +kernel
theorem dX12_nearest_119 : decode cX12_nearest 119 = .ok (.istore 4, 2) := by decide +kernel
theorem dX12_nearest_121 : decode cX12_nearest 121 = .ok (.iinc 5 1, 3) := by decide +kernel
theorem dX12_nearest_124 : decode cX12_nearest 124 = .ok (.goto (-118), 3) := by decide +kernel
theorem dX12_nearest_127 : decode cX12_nearest 127 = .ok (.iload 4, 2) := by decide +kernel
theorem dX12_nearest_129 : decode cX12_nearest 129 = .ok (.ireturn, 1) := by decide +kernel
theorem dX12_lowest_0 : decode cX12_lowest 0 = .ok (.bipush 9, 2) := by decide +kernel
theorem dX12_lowest_2 : decode cX12_lowest 2 = .ok (.istore_n 3, 1) := by decide +kernel
theorem dX12_lowest_3 : decode cX12_lowest 3 = .ok (.iconst 0, 1) := by decide +kernel
theorem dX12_lowest_4 : decode cX12_lowest 4 = .ok (.istore 4, 2) := by decide +kernel
theorem dX12_lowest_6 : decode cX12_lowest 6 = .ok (.iload 4, 2) := by decide +kernel
theorem dX12_lowest_8 : decode cX12_lowest 8 = .ok (.aload_n 0, 1) := by decide +kernel
theorem dX12_lowest_9 : decode cX12_lowest 9 = .ok (.invokevirtual 61, 3) := by decide +kernel
theorem dX12_lowest_12 : decode cX12_lowest 12 = .ok (.if_icmp .ge 36, 3) := by decide +kernel
theorem dX12_lowest_15 : decode cX12_lowest 15 = .ok (.aload_n 0, 1) := by decide +kernel
theorem dX12_lowest_16 : decode cX12_lowest 16 = .ok (.iload 4, 2) := by decide +kernel
theorem dX12_lowest_18 : decode cX12_lowest 18 = .ok (.iload_n 1, 1) := by decide +kernel
theorem dX12_lowest_19 : decode cX12_lowest 19 = .ok (.iload_n 2, 1) := by decide +kernel
theorem dX12_lowest_20 : decode cX12_lowest 20 = .ok (.invokevirtual 135, 3) := by decide +kernel
theorem dX12_lowest_23 : decode cX12_lowest 23 = .ok (.ifCond .eq 17, 3) := by decide +kernel
theorem dX12_lowest_26 : decode cX12_lowest 26 = .ok (.iload_n 3, 1) := by decide +kernel
theorem dX12_lowest_27 : decode cX12_lowest 27 = .ok (.aload_n 0, 1) := by decide +kernel
theorem dX12_lowest_28 : decode cX12_lowest 28 = .ok (.iload 4, 2) := by decide +kernel
theorem dX12_lowest_30 : decode cX12_lowest 30 = .ok (.iload_n 2, 1) := by decide +kernel
theorem dX12_lowest_31 : decode cX12_lowest 31 = .ok (.invokevirtual 140, 3) := by decide +kernel
theorem dX12_lowest_34 : decode cX12_lowest 34 = .ok (.invokestatic 119, 3) := by decide +kernel
theorem dX12_lowest_37 : decode cX12_lowest 37 = .ok (.goto 4, 3) := by decide +kernel
theorem dX12_lowest_40 : decode cX12_lowest 40 = .ok (.iload_n 3, 1) := by decide +kernel
theorem dX12_lowest_41 : decode cX12_lowest 41 = .ok (.istore_n 3, 1) := by decide +kernel
theorem dX12_lowest_42 : decode cX12_lowest 42 = .ok (.iinc 4 1, 3) := by decide +kernel
theorem dX12_lowest_45 : decode cX12_lowest 45 = .ok (.goto (-39), 3) := by decide +kernel
theorem dX12_lowest_48 : decode cX12_lowest 48 = .ok (.iload_n 3, 1) := by decide +kernel
theorem dX12_lowest_49 : decode cX12_lowest 49 = .ok (.ireturn, 1) := by decide +kernel
theorem dX12_limitAt_0 : decode cX12_limitAt 0 = .ok (.aload_n 0, 1) := by decide +kernel
theorem dX12_limitAt_1 : decode cX12_limitAt 1 = .ok (.iload_n 1, 1) := by decide +kernel
theorem dX12_limitAt_2 : decode cX12_limitAt 2 = .ok (.iload_n 2, 1) := by decide +kernel
theorem dX12_limitAt_3 : decode cX12_limitAt 3 = .ok (.iconst (-1), 1) := by decide +kernel
theorem dX12_limitAt_4 : decode cX12_limitAt 4 = .ok (.invokevirtual 143, 3) := by decide +kernel
theorem dX12_limitAt_7 : decode cX12_limitAt 7 = .ok (.istore_n 3, 1) := by decide +kernel
theorem dX12_limitAt_8 : decode cX12_limitAt 8 = .ok (.iload_n 3, 1) := by decide +kernel
theorem dX12_limitAt_9 : decode cX12_limitAt 9 = .ok (.iconst (-1), 1) := by decide +kernel
theorem dX12_limitAt_10 : decode cX12_limitAt 10 = .ok (.if_icmp .ne 6, 3) := by decide +kernel
theorem dX12_limitAt_13 : decode cX12_limitAt 13 = .ok (.bipush 9, 2) := by decide +kernel
theorem dX12_limitAt_15 : decode cX12_limitAt 15 = .ok (.ireturn, 1) := by decide +kernel
theorem dX12_limitAt_16 : decode cX12_limitAt 16 = .ok (.aload_n 0, 1) := by decide +kernel
theorem dX12_limitAt_17 : decode cX12_limitAt 17 = .ok (.getfield 7, 3) := by decide +kernel
theorem dX12_limitAt_20 : decode cX12_limitAt 20 = .ok (.iconst 2, 1) := by decide +kernel
theorem dX12_limitAt_21 : decode cX12_limitAt 21 = .ok (.iaload, 1) := by decide +kernel
theorem dX12_limitAt_22 : decode cX12_limitAt 22 = .ok (.iconst 1, 1) := by decide +kernel
theorem dX12_limitAt_23 : decode cX12_limitAt 23 = .ok (.if_icmp .ne 10, 3) := by decide +kernel
theorem dX12_limitAt_26 : decode cX12_limitAt 26 = .ok (.aload_n 0, 1) := by decide +kernel
theorem dX12_limitAt_27 : decode cX12_limitAt 27 = .ok (.iload_n 1, 1) := by decide +kernel
theorem dX12_limitAt_28 : decode cX12_limitAt 28 = .ok (.iload_n 2, 1) := by decide +kernel
theorem dX12_limitAt_29 : decode cX12_limitAt 29 = .ok (.invokevirtual 146, 3) := by decide +kernel
theorem dX12_limitAt_32 : decode cX12_limitAt 32 = .ok (.ireturn, 1) := by decide +kernel
theorem dX12_limitAt_33 : decode cX12_limitAt 33 = .ok (.aload_n 0, 1) := by decide +kernel
theorem dX12_limitAt_34 : decode cX12_limitAt 34 = .ok (.getfield 7, 3) := by decide +kernel
theorem dX12_limitAt_37 : decode cX12_limitAt 37 = .ok (.iconst 2, 1) := by decide +kernel
theorem dX12_limitAt_38 : decode cX12_limitAt 38 = .ok (.iaload, 1) := by decide +kernel
theorem dX12_limitAt_39 : decode cX12_limitAt 39 = .ok (.iconst 2, 1) := by decide +kernel
theorem dX12_limitAt_40 : decode cX12_limitAt 40 = .ok (.if_icmp .ne 13, 3) := by decide +kernel
theorem dX12_limitAt_43 : decode cX12_limitAt 43 = .ok (.aload_n 0, 1) := by decide +kernel
theorem dX12_limitAt_44 : decode cX12_limitAt 44 = .ok (.iload_n 1, 1) := by decide +kernel
theorem dX12_limitAt_45 : decode cX12_limitAt 45 = .ok (.iload_n 2, 1) := by decide +kernel
theorem dX12_limitAt_46 : decode cX12_limitAt 46 = .ok (.iload_n 3, 1) := by decide +kernel
theorem dX12_limitAt_47 : decode cX12_limitAt 47 = .ok (.invokevirtual 143, 3) := by decide +kernel
theorem dX12_limitAt_50 : decode cX12_limitAt 50 = .ok (.goto 4, 3) := by decide +kernel
theorem dX12_limitAt_53 : decode cX12_limitAt 53 = .ok (.iconst (-1), 1) := by decide +kernel
theorem dX12_limitAt_54 : decode cX12_limitAt 54 = .ok (.istore 4, 2) := by decide +kernel
theorem dX12_limitAt_56 : decode cX12_limitAt 56 = .ok (.aload_n 0, 1) := by decide +kernel
theorem dX12_limitAt_57 : decode cX12_limitAt 57 = .ok (.iload_n 3, 1) := by decide +kernel
theorem dX12_limitAt_58 : decode cX12_limitAt 58 = .ok (.iload_n 2, 1) := by decide +kernel
theorem dX12_limitAt_59 : decode cX12_limitAt 59 = .ok (.invokevirtual 140, 3) := by decide +kernel
theorem dX12_limitAt_62 : decode cX12_limitAt 62 = .ok (.istore 5, 2) := by decide +kernel
theorem dX12_limitAt_64 : decode cX12_limitAt 64 = .ok (.iload 4, 2) := by decide +kernel
theorem dX12_limitAt_66 : decode cX12_limitAt 66 = .ok (.iconst (-1), 1) := by decide +kernel
theorem dX12_limitAt_67 : decode cX12_limitAt 67 = .ok (.if_icmp .ne 8, 3) := by decide +kernel
theorem dX12_limitAt_70 : decode cX12_limitAt 70 = .ok (.iload 5, 2) := by decide +kernel
theorem dX12_limitAt_72 : decode cX12_limitAt 72 = .ok (.goto 15, 3) := by decide +kernel
theorem dX12_limitAt_75 : decode cX12_limitAt 75 = .ok (.iload 5, 2) := by decide +kernel
theorem dX12_limitAt_77 : decode cX12_limitAt 77 = .ok (.aload_n 0, 1) := by decide +kernel
theorem dX12_limitAt_78 : decode cX12_limitAt 78 = .ok (.iload 4, 2) := by decide +kernel
theorem dX12_limitAt_80 : decode cX12_limitAt 80 = .ok (.iload_n 2, 1) := by decide +kernel
theorem dX12_limitAt_81 : decode cX12_limitAt 81 = .ok (.invokevirtual 140, 3) := by decide +kernel
theorem dX12_limitAt_84 : decode cX12_limitAt 84 = .ok (.iadd, 1) := by decide +kernel
theorem dX12_limitAt_85 : decode cX12_limitAt 85 = .ok (.iconst 2, 1) := by decide +kernel
theorem dX12_limitAt_86 : decode cX12_limitAt 86 = .ok (.idiv, 1) := by decide +kernel
theorem dX12_limitAt_87 : decode cX12_limitAt 87 = .ok (.ireturn, 1) := by decide +kernel
theorem dX12_of_0 : decode cX12_of 0 = .ok (.aload_n 0, 1) := by decide +kernel
theorem dX12_of_1 : decode cX12_of 1 = .ok (.iload_n 1, 1) := by decide +kernel
theorem dX12_of_2 : decode cX12_of 2 = .ok (.invokevirtual 105, 3) := by decide +kernel
theorem dX12_of_5 : decode cX12_of 5 = .ok (.ifCond .eq 22, 3) := by decide +kernel
theorem dX12_of_8 : decode cX12_of 8 = .ok (.iload_n 2, 1) := by decide +kernel
theorem dX12_of_9 : decode cX12_of 9 = .ok (.invokestatic 149, 3) := by decide +kernel
theorem dX12_of_12 : decode cX12_of 12 = .ok (.ifCond .eq 15, 3) := by decide +kernel
theorem dX12_of_15 : decode cX12_of 15 = .ok (.iload_n 3, 1) := by decide +kernel
theorem dX12_of_16 : decode cX12_of 16 = .ok (.i2l, 1) := by decide +kernel
theorem dX12_of_17 : decode cX12_of 17 = .ok (.lconst 0, 1) := by decide +kernel
theorem dX12_of_18 : decode cX12_of 18 = .ok (.ldc2_w 79, 3) := by decide +kernel
theorem dX12_of_21 : decode cX12_of 21 = .ok (.invokestatic 65, 3) := by decide +kernel
theorem dX12_of_24 : decode cX12_of 24 = .ok (.ifCond .ne 10, 3) := by decide +kernel
theorem dX12_of_27 : decode cX12_of 27 = .ok (.aload_n 0, 1) := by decide +kernel
theorem dX12_of_28 : decode cX12_of 28 = .ok (.bipush (-2), 2) := by decide +kernel
theorem dX12_of_30 : decode cX12_of 30 = .ok (.invokevirtual 75, 3) := by decide +kernel
theorem dX12_of_33 : decode cX12_of 33 = .ok (.ireturn, 1) := by decide +kernel
theorem dX12_of_34 : decode cX12_of 34 = .ok (.aload_n 0, 1) := by decide +kernel
theorem dX12_of_35 : decode cX12_of 35 = .ok (.aload_n 0, 1) := by decide +kernel
theorem dX12_of_36 : decode cX12_of 36 = .ok (.invokevirtual 152, 3) := by decide +kernel
theorem dX12_of_39 : decode cX12_of 39 = .ok (.invokevirtual 155, 3) := by decide +kernel
theorem dX12_of_42 : decode cX12_of 42 = .ok (.iload_n 3, 1) := by decide +kernel
theorem dX12_of_43 : decode cX12_of 43 = .ok (.tableswitch 70 2 5 #[29, 36, 56, 63], 29) := by decide +kernel
theorem dX12_of_72 : decode cX12_of 72 = .ok (.aload_n 0, 1) := by decide +kernel
theorem dX12_of_73 : decode cX12_of 73 = .ok (.iload_n 1, 1) := by decide +kernel
theorem dX12_of_74 : decode cX12_of 74 = .ok (.iload_n 2, 1) := by decide +kernel
theorem dX12_of_75 : decode cX12_of 75 = .ok (.invokevirtual 129, 3) := by decide +kernel
theorem dX12_of_78 : decode cX12_of 78 = .ok (.ireturn, 1) := by decide +kernel
theorem dX12_of_79 : decode cX12_of 79 = .ok (.aload_n 0, 1) := by decide +kernel
theorem dX12_of_80 : decode cX12_of 80 = .ok (.iload_n 1, 1) := by decide +kernel
theorem dX12_of_81 : decode cX12_of 81 = .ok (.iload_n 2, 1) := by decide +kernel
theorem dX12_of_82 : decode cX12_of 82 = .ok (.invokevirtual 125, 3) := by decide +kernel
theorem dX12_of_85 : decode cX12_of 85 = .ok (.ifCond .eq 12, 3) := by decide +kernel
theorem dX12_of_88 : decode cX12_of 88 = .ok (.aload_n 0, 1) := by decide +kernel
theorem dX12_of_89 : decode cX12_of 89 = .ok (.iload_n 1, 1) := by decide +kernel
theorem dX12_of_90 : decode cX12_of 90 = .ok (.iload_n 2, 1) := by decide +kernel
theorem dX12_of_91 : decode cX12_of 91 = .ok (.invokevirtual 140, 3) := by decide +kernel
theorem dX12_of_94 : decode cX12_of 94 = .ok (.goto 4, 3) := by decide +kernel
theorem dX12_of_97 : decode cX12_of 97 = .ok (.iconst 0, 1) := by decide +kernel
theorem dX12_of_98 : decode cX12_of 98 = .ok (.ireturn, 1) := by decide +kernel
theorem dX12_of_99 : decode cX12_of 99 = .ok (.aload_n 0, 1) := by decide +kernel
theorem dX12_of_100 : decode cX12_of 100 = .ok (.iload_n 1, 1) := by decide +kernel
theorem dX12_of_101 : decode cX12_of 101 = .ok (.iconst 3, 1) := by decide +kernel
theorem dX12_of_102 : decode cX12_of 102 = .ok (.invokevirtual 98, 3) := by decide +kernel
theorem dX12_of_105 : decode cX12_of 105 = .ok (.ireturn, 1) := by decide +kernel
theorem dX12_of_106 : decode cX12_of 106 = .ok (.aload_n 0, 1) := by decide +kernel
theorem dX12_of_107 : decode cX12_of 107 = .ok (.iload_n 1, 1) := by decide +kernel
theorem dX12_of_108 : decode cX12_of 108 = .ok (.iconst 4, 1) := by decide +kernel
theorem dX12_of_109 : decode cX12_of 109 = .ok (.invokevirtual 98, 3) := by decide +kernel
theorem dX12_of_112 : decode cX12_of 112 = .ok (.ireturn, 1) := by decide +kernel
theorem dX12_of_113 : decode cX12_of 113 = .ok (.aload_n 0, 1) := by decide +kernel
theorem dX12_of_114 : decode cX12_of 114 = .ok (.iload_n 1, 1) := by decide +kernel
theorem dX12_of_115 : decode cX12_of 115 = .ok (.iload_n 3, 1) := by decide +kernel
theorem dX12_of_116 : decode cX12_of 116 = .ok (.invokevirtual 98, 3) := by decide +kernel
theorem dX12_of_119 : decode cX12_of 119 = .ok (.ireturn, 1) := by decide +kernel
theorem dX12_limit_0 : decode cX12_limit 0 = .ok (.iload_n 1, 1) := by decide +kernel
theorem dX12_limit_1 : decode cX12_limit 1 = .ok (.invokestatic 83, 3) := by decide +kernel
theorem dX12_limit_4 : decode cX12_limit 4 = .ok (.ifCond .eq 20, 3) := by decide +kernel
theorem dX12_limit_7 : decode cX12_limit 7 = .ok (.iload_n 2, 1) := by decide +kernel
theorem dX12_limit_8 : decode cX12_limit 8 = .ok (.invokestatic 149, 3) := by decide +kernel
theorem dX12_limit_11 : decode cX12_limit 11 = .ok (.ifCond .eq 13, 3) := by decide +kernel
theorem dX12_limit_14 : decode cX12_limit 14 = .ok (.iload_n 3, 1) := by decide +kernel
theorem dX12_limit_15 : decode cX12_limit 15 = .ok (.i2l, 1) := by decide +kernel
theorem dX12_limit_16 : decode cX12_limit 16 = .ok (.lconst 0, 1) := by decide +kernel
theorem dX12_limit_17 : decode cX12_limit 17 = .ok (.lconst 1, 1) := by decide +kernel
theorem dX12_limit_18 : decode cX12_limit 18 = .ok (.invokestatic 65, 3) := by decide +kernel
theorem dX12_limit_21 : decode cX12_limit 21 = .ok (.ifCond .ne 10, 3) := by decide +kernel
theorem dX12_limit_24 : decode cX12_limit 24 = .ok (.aload_n 0, 1) := by decide +kernel
theorem dX12_limit_25 : decode cX12_limit 25 = .ok (.bipush (-10), 2) := by decide +kernel
theorem dX12_limit_27 : decode cX12_limit 27 = .ok (.invokevirtual 75, 3) := by decide +kernel
theorem dX12_limit_30 : decode cX12_limit 30 = .ok (.ireturn, 1) := by decide +kernel
theorem dX12_limit_31 : decode cX12_limit 31 = .ok (.aload_n 0, 1) := by decide +kernel
theorem dX12_limit_32 : decode cX12_limit 32 = .ok (.aload_n 0, 1) := by decide +kernel
theorem dX12_limit_33 : decode cX12_limit 33 = .ok (.invokevirtual 152, 3) := by decide +kernel
theorem dX12_limit_36 : decode cX12_limit 36 = .ok (.invokevirtual 155, 3) := by decide +kernel
theorem dX12_limit_39 : decode cX12_limit 39 = .ok (.iload_n 3, 1) := by decide +kernel
theorem dX12_limit_40 : decode cX12_limit 40 = .ok (.ifCond .ne 12, 3) := by decide +kernel
theorem dX12_limit_43 : decode cX12_limit 43 = .ok (.aload_n 0, 1) := by decide +kernel
theorem dX12_limit_44 : decode cX12_limit 44 = .ok (.iload_n 1, 1) := by decide +kernel
theorem dX12_limit_45 : decode cX12_limit 45 = .ok (.iload_n 2, 1) := by decide +kernel
theorem dX12_limit_46 : decode cX12_limit 46 = .ok (.invokevirtual 159, 3) := by decide +kernel
theorem dX12_limit_49 : decode cX12_limit 49 = .ok (.goto 10, 3) := by decide +kernel
theorem dX12_limit_52 : decode cX12_limit 52 = .ok (.aload_n 0, 1) := by decide +kernel
theorem dX12_limit_53 : decode cX12_limit 53 = .ok (.iload_n 1, 1) := by decide +kernel
theorem dX12_limit_54 : decode cX12_limit 54 = .ok (.iload_n 2, 1) := by decide +kernel
theorem dX12_limit_55 : decode cX12_limit 55 = .ok (.iconst (-1), 1) := by decide +kernel
theorem dX12_limit_56 : decode cX12_limit 56 = .ok (.invokevirtual 143, 3) := by decide +kernel
theorem dX12_limit_59 : decode cX12_limit 59 = .ok (.ireturn, 1) := by decide +kernel
theorem dX12_whereAt_0 : decode cX12_whereAt 0 = .ok (.iconst 0, 1) := by decide +kernel
theorem dX12_whereAt_1 : decode cX12_whereAt 1 = .ok (.istore_n 3, 1) := by decide +kernel
theorem dX12_whereAt_2 : decode cX12_whereAt 2 = .ok (.iload_n 1, 1) := by decide +kernel
theorem dX12_whereAt_3 : decode cX12_whereAt 3 = .ok (.istore 4, 2) := by decide +kernel
theorem dX12_whereAt_5 : decode cX12_whereAt 5 = .ok (.iload 4, 2) := by decide +kernel
theorem dX12_whereAt_7 : decode cX12_whereAt 7 = .ok (.iload_n 2, 1) := by decide +kernel
theorem dX12_whereAt_8 : decode cX12_whereAt 8 = .ok (.if_icmp .ge 24, 3) := by decide +kernel
theorem dX12_whereAt_11 : decode cX12_whereAt 11 = .ok (.bipush 47, 2) := by decide +kernel
theorem dX12_whereAt_13 : decode cX12_whereAt 13 = .ok (.iload_n 3, 1) := by decide +kernel
theorem dX12_whereAt_14 : decode cX12_whereAt 14 = .ok (.aload_n 0, 1) := by decide +kernel
theorem dX12_whereAt_15 : decode cX12_whereAt 15 = .ok (.iload_n 3, 1) := by decide +kernel
theorem dX12_whereAt_16 : decode cX12_whereAt 16 = .ok (.iload 4, 2) := by decide +kernel
theorem dX12_whereAt_18 : decode cX12_whereAt 18 = .ok (.invokevirtual 159, 3) := by decide +kernel
theorem dX12_whereAt_21 : decode cX12_whereAt 21 = .ok (.iadd, 1) := by decide +kernel
theorem dX12_whereAt_22 : decode cX12_whereAt 22 = .ok (.invokestatic 119, 3) := by decide +kernel
theorem dX12_whereAt_25 : decode cX12_whereAt 25 = .ok (.istore_n 3, 1) := by decide +kernel
theorem dX12_whereAt_26 : decode cX12_whereAt 26 = .ok (.iinc 4 1, 3) := by decide +kernel
theorem dX12_whereAt_29 : decode cX12_whereAt 29 = .ok (.goto (-24), 3) := by decide +kernel
theorem dX12_whereAt_32 : decode cX12_whereAt 32 = .ok (.iload_n 3, 1) := by decide +kernel
theorem dX12_whereAt_33 : decode cX12_whereAt 33 = .ok (.ireturn, 1) := by decide +kernel
theorem dX12_thereFrom_0 : decode cX12_thereFrom 0 = .ok (.iconst 0, 1) := by decide +kernel
theorem dX12_thereFrom_1 : decode cX12_thereFrom 1 = .ok (.istore_n 2, 1) := by decide +kernel
theorem dX12_thereFrom_2 : decode cX12_thereFrom 2 = .ok (.iload_n 1, 1) := by decide +kernel
theorem dX12_thereFrom_3 : decode cX12_thereFrom 3 = .ok (.istore_n 3, 1) := by decide +kernel
theorem dX12_thereFrom_4 : decode cX12_thereFrom 4 = .ok (.iload_n 3, 1) := by decide +kernel
theorem dX12_thereFrom_5 : decode cX12_thereFrom 5 = .ok (.bipush 60, 2) := by decide +kernel
theorem dX12_thereFrom_7 : decode cX12_thereFrom 7 = .ok (.if_icmp .ge 33, 3) := by decide +kernel
theorem dX12_thereFrom_10 : decode cX12_thereFrom 10 = .ok (.bipush 47, 2) := by decide +kernel
theorem dX12_thereFrom_12 : decode cX12_thereFrom 12 = .ok (.iload_n 2, 1) := by decide +kernel
theorem dX12_thereFrom_13 : decode cX12_thereFrom 13 = .ok (.aload_n 0, 1) := by decide +kernel
theorem dX12_thereFrom_14 : decode cX12_thereFrom 14 = .ok (.iload_n 2, 1) := by decide +kernel
theorem dX12_thereFrom_15 : decode cX12_thereFrom 15 = .ok (.iload_n 3, 1) := by decide +kernel
theorem dX12_thereFrom_16 : decode cX12_thereFrom 16 = .ok (.invokevirtual 159, 3) := by decide +kernel
theorem dX12_thereFrom_19 : decode cX12_thereFrom 19 = .ok (.iadd, 1) := by decide +kernel
theorem dX12_thereFrom_20 : decode cX12_thereFrom 20 = .ok (.invokestatic 119, 3) := by decide +kernel
theorem dX12_thereFrom_23 : decode cX12_thereFrom 23 = .ok (.istore_n 2, 1) := by decide +kernel
theorem dX12_thereFrom_24 : decode cX12_thereFrom 24 = .ok (.iload_n 2, 1) := by decide +kernel
theorem dX12_thereFrom_25 : decode cX12_thereFrom 25 = .ok (.bipush 47, 2) := by decide +kernel
theorem dX12_thereFrom_27 : decode cX12_thereFrom 27 = .ok (.if_icmp .ne 7, 3) := by decide +kernel
theorem dX12_thereFrom_30 : decode cX12_thereFrom 30 = .ok (.iload_n 3, 1) := by decide +kernel
theorem dX12_thereFrom_31 : decode cX12_thereFrom 31 = .ok (.iconst 1, 1) := by decide +kernel
theorem dX12_thereFrom_32 : decode cX12_thereFrom 32 = .ok (.iadd, 1) := by decide +kernel
theorem dX12_thereFrom_33 : decode cX12_thereFrom 33 = .ok (.ireturn, 1) := by decide +kernel
theorem dX12_thereFrom_34 : decode cX12_thereFrom 34 = .ok (.iinc 3 1, 3) := by decide +kernel
theorem dX12_thereFrom_37 : decode cX12_thereFrom 37 = .ok (.goto (-33), 3) := by decide +kernel
theorem dX12_thereFrom_40 : decode cX12_thereFrom 40 = .ok (.bipush 61, 2) := by decide +kernel
theorem dX12_thereFrom_42 : decode cX12_thereFrom 42 = .ok (.ireturn, 1) := by decide +kernel
theorem dX12_orNone_0 : decode cX12_orNone 0 = .ok (.iload_n 0, 1) := by decide +kernel
theorem dX12_orNone_1 : decode cX12_orNone 1 = .ok (.bipush 61, 2) := by decide +kernel
theorem dX12_orNone_3 : decode cX12_orNone 3 = .ok (.if_icmp .ne 7, 3) := by decide +kernel
theorem dX12_orNone_6 : decode cX12_orNone 6 = .ok (.iconst (-1), 1) := by decide +kernel
theorem dX12_orNone_7 : decode cX12_orNone 7 = .ok (.goto 4, 3) := by decide +kernel
theorem dX12_orNone_10 : decode cX12_orNone 10 = .ok (.iload_n 0, 1) := by decide +kernel
theorem dX12_orNone_11 : decode cX12_orNone 11 = .ok (.ireturn, 1) := by decide +kernel
theorem dX12_where_0 : decode cX12_where 0 = .ok (.iload_n 1, 1) := by decide +kernel
theorem dX12_where_1 : decode cX12_where 1 = .ok (.invokestatic 149, 3) := by decide +kernel
theorem dX12_where_4 : decode cX12_where 4 = .ok (.ifCond .eq 15, 3) := by decide +kernel
theorem dX12_where_7 : decode cX12_where 7 = .ok (.iload_n 2, 1) := by decide +kernel
theorem dX12_where_8 : decode cX12_where 8 = .ok (.i2l, 1) := by decide +kernel
theorem dX12_where_9 : decode cX12_where 9 = .ok (.lconst 0, 1) := by decide +kernel
theorem dX12_where_10 : decode cX12_where 10 = .ok (.ldc2_w 89, 3) := by decide +kernel
theorem dX12_where_13 : decode cX12_where 13 = .ok (.invokestatic 65, 3) := by decide +kernel
theorem dX12_where_16 : decode cX12_where 16 = .ok (.ifCond .ne 10, 3) := by decide +kernel
theorem dX12_where_19 : decode cX12_where 19 = .ok (.aload_n 0, 1) := by decide +kernel
theorem dX12_where_20 : decode cX12_where 20 = .ok (.bipush (-2), 2) := by decide +kernel
theorem dX12_where_22 : decode cX12_where 22 = .ok (.invokevirtual 75, 3) := by decide +kernel
theorem dX12_where_25 : decode cX12_where 25 = .ok (.ireturn, 1) := by decide +kernel
theorem dX12_where_26 : decode cX12_where 26 = .ok (.aload_n 0, 1) := by decide +kernel
theorem dX12_where_27 : decode cX12_where 27 = .ok (.aload_n 0, 1) := by decide +kernel
theorem dX12_where_28 : decode cX12_where 28 = .ok (.invokevirtual 152, 3) := by decide +kernel
theorem dX12_where_31 : decode cX12_where 31 = .ok (.invokevirtual 155, 3) := by decide +kernel
theorem dX12_where_34 : decode cX12_where 34 = .ok (.iload_n 2, 1) := by decide +kernel
theorem dX12_where_35 : decode cX12_where 35 = .ok (.iload_n 1, 1) := by decide +kernel
theorem dX12_where_36 : decode cX12_where 36 = .ok (.if_icmp .ge 7, 3) := by decide +kernel
theorem dX12_where_39 : decode cX12_where 39 = .ok (.iconst (-1), 1) := by decide +kernel
theorem dX12_where_40 : decode cX12_where 40 = .ok (.goto 9, 3) := by decide +kernel
theorem dX12_where_43 : decode cX12_where 43 = .ok (.aload_n 0, 1) := by decide +kernel
theorem dX12_where_44 : decode cX12_where 44 = .ok (.iload_n 1, 1) := by decide +kernel
theorem dX12_where_45 : decode cX12_where 45 = .ok (.iload_n 2, 1) := by decide +kernel
theorem dX12_where_46 : decode cX12_where 46 = .ok (.invokevirtual 162, 3) := by decide +kernel
theorem dX12_where_49 : decode cX12_where 49 = .ok (.ireturn, 1) := by decide +kernel
theorem dX12_there_0 : decode cX12_there 0 = .ok (.iload_n 1, 1) := by decide +kernel
theorem dX12_there_1 : decode cX12_there 1 = .ok (.invokestatic 149, 3) := by decide +kernel
theorem dX12_there_4 : decode cX12_there 4 = .ok (.ifCond .ne 10, 3) := by decide +kernel
theorem dX12_there_7 : decode cX12_there 7 = .ok (.aload_n 0, 1) := by decide +kernel
theorem dX12_there_8 : decode cX12_there 8 = .ok (.bipush (-2), 2) := by decide +kernel
theorem dX12_there_10 : decode cX12_there 10 = .ok (.invokevirtual 75, 3) := by decide +kernel
theorem dX12_there_13 : decode cX12_there 13 = .ok (.ireturn, 1) := by decide +kernel
theorem dX12_there_14 : decode cX12_there 14 = .ok (.aload_n 0, 1) := by decide +kernel
theorem dX12_there_15 : decode cX12_there 15 = .ok (.aload_n 0, 1) := by decide +kernel
theorem dX12_there_16 : decode cX12_there 16 = .ok (.invokevirtual 152, 3) := by decide +kernel
theorem dX12_there_19 : decode cX12_there 19 = .ok (.invokevirtual 155, 3) := by decide +kernel
theorem dX12_there_22 : decode cX12_there 22 = .ok (.aload_n 0, 1) := by decide +kernel
theorem dX12_there_23 : decode cX12_there 23 = .ok (.iload_n 1, 1) := by decide +kernel
theorem dX12_there_24 : decode cX12_there 24 = .ok (.invokevirtual 165, 3) := by decide +kernel
theorem dX12_there_27 : decode cX12_there 27 = .ok (.invokestatic 168, 3) := by decide +kernel
theorem dX12_there_30 : decode cX12_there 30 = .ok (.ireturn, 1) := by decide +kernel
theorem dX12_goOn_0 : decode cX12_goOn 0 = .ok (.iconst 0, 1) := by decide +kernel
theorem dX12_goOn_1 : decode cX12_goOn 1 = .ok (.istore_n 2, 1) := by decide +kernel
theorem dX12_goOn_2 : decode cX12_goOn 2 = .ok (.iload_n 2, 1) := by decide +kernel
theorem dX12_goOn_3 : decode cX12_goOn 3 = .ok (.bipush 47, 2) := by decide +kernel
theorem dX12_goOn_5 : decode cX12_goOn 5 = .ok (.if_icmp .gt 16, 3) := by decide +kernel
theorem dX12_goOn_8 : decode cX12_goOn 8 = .ok (.aload_n 0, 1) := by decide +kernel
theorem dX12_goOn_9 : decode cX12_goOn 9 = .ok (.getfield 36, 3) := by decide +kernel
theorem dX12_goOn_12 : decode cX12_goOn 12 = .ok (.iload_n 2, 1) := by decide +kernel
theorem dX12_goOn_13 : decode cX12_goOn 13 = .ok (.iconst 0, 1) := by decide +kernel
theorem dX12_goOn_14 : decode cX12_goOn 14 = .ok (.bastore, 1) := by decide +kernel
theorem dX12_goOn_15 : decode cX12_goOn 15 = .ok (.iinc 2 1, 3) := by decide +kernel
theorem dX12_goOn_18 : decode cX12_goOn 18 = .ok (.goto (-16), 3) := by decide +kernel
theorem dX12_goOn_21 : decode cX12_goOn 21 = .ok (.iconst 0, 1) := by decide +kernel
theorem dX12_goOn_22 : decode cX12_goOn 22 = .ok (.istore_n 2, 1) := by decide +kernel
theorem dX12_goOn_23 : decode cX12_goOn 23 = .ok (.iload_n 2, 1) := by decide +kernel
theorem dX12_goOn_24 : decode cX12_goOn 24 = .ok (.bipush 47, 2) := by decide +kernel
theorem dX12_goOn_26 : decode cX12_goOn 26 = .ok (.if_icmp .gt 59, 3) := by decide +kernel
theorem dX12_goOn_29 : decode cX12_goOn 29 = .ok (.aload_n 0, 1) := by decide +kernel
theorem dX12_goOn_30 : decode cX12_goOn 30 = .ok (.getfield 33, 3) := by decide +kernel
theorem dX12_goOn_33 : decode cX12_goOn 33 = .ok (.iload_n 2, 1) := by decide +kernel
theorem dX12_goOn_34 : decode cX12_goOn 34 = .ok (.baload, 1) := by decide +kernel
theorem dX12_goOn_35 : decode cX12_goOn 35 = .ok (.ifCond .eq 19, 3) := by decide +kernel
theorem dX12_goOn_38 : decode cX12_goOn 38 = .ok (.bipush 47, 2) := by decide +kernel
theorem dX12_goOn_40 : decode cX12_goOn 40 = .ok (.iload_n 2, 1) := by decide +kernel
theorem dX12_goOn_41 : decode cX12_goOn 41 = .ok (.aload_n 0, 1) := by decide +kernel
theorem dX12_goOn_42 : decode cX12_goOn 42 = .ok (.iload_n 2, 1) := by decide +kernel
theorem dX12_goOn_43 : decode cX12_goOn 43 = .ok (.iload_n 1, 1) := by decide +kernel
theorem dX12_goOn_44 : decode cX12_goOn 44 = .ok (.invokevirtual 159, 3) := by decide +kernel
theorem dX12_goOn_47 : decode cX12_goOn 47 = .ok (.iadd, 1) := by decide +kernel
theorem dX12_goOn_48 : decode cX12_goOn 48 = .ok (.invokestatic 119, 3) := by decide +kernel
theorem dX12_goOn_51 : decode cX12_goOn 51 = .ok (.goto 4, 3) := by decide +kernel
theorem dX12_goOn_54 : decode cX12_goOn 54 = .ok (.iconst (-1), 1) := by decide +kernel
theorem dX12_goOn_55 : decode cX12_goOn 55 = .ok (.istore_n 3, 1) := by decide +kernel
theorem dX12_goOn_56 : decode cX12_goOn 56 = .ok (.iload_n 2, 1) := by decide +kernel
theorem dX12_goOn_57 : decode cX12_goOn 57 = .ok (.istore 4, 2) := by decide +kernel
theorem dX12_goOn_59 : decode cX12_goOn 59 = .ok (.iload 4, 2) := by decide +kernel
theorem dX12_goOn_61 : decode cX12_goOn 61 = .ok (.iload_n 3, 1) := by decide +kernel
theorem dX12_goOn_62 : decode cX12_goOn 62 = .ok (.if_icmp .gt 17, 3) := by decide +kernel
theorem dX12_goOn_65 : decode cX12_goOn 65 = .ok (.aload_n 0, 1) := by decide +kernel
theorem dX12_goOn_66 : decode cX12_goOn 66 = .ok (.getfield 36, 3) := by decide +kernel
theorem dX12_goOn_69 : decode cX12_goOn 69 = .ok (.iload 4, 2) := by decide +kernel
theorem dX12_goOn_71 : decode cX12_goOn 71 = .ok (.iconst 1, 1) := by decide +kernel
theorem dX12_goOn_72 : decode cX12_goOn 72 = .ok (.bastore, 1) := by decide +kernel
theorem dX12_goOn_73 : decode cX12_goOn 73 = .ok (.iinc 4 1, 3) := by decide +kernel
theorem dX12_goOn_76 : decode cX12_goOn 76 = .ok (.goto (-17), 3) := by decide +kernel
theorem dX12_goOn_79 : decode cX12_goOn 79 = .ok (.iinc 2 1, 3) := by decide +kernel
theorem dX12_goOn_82 : decode cX12_goOn 82 = .ok (.goto (-59), 3) := by decide +kernel
theorem dX12_goOn_85 : decode cX12_goOn 85 = .ok (.iconst 0, 1) := by decide +kernel
theorem dX12_goOn_86 : decode cX12_goOn 86 = .ok (.istore_n 2, 1) := by decide +kernel
theorem dX12_goOn_87 : decode cX12_goOn 87 = .ok (.iload_n 2, 1) := by decide +kernel
theorem dX12_goOn_88 : decode cX12_goOn 88 = .ok (.bipush 47, 2) := by decide +kernel
theorem dX12_goOn_90 : decode cX12_goOn 90 = .ok (.if_icmp .gt 21, 3) := by decide +kernel
theorem dX12_goOn_93 : decode cX12_goOn 93 = .ok (.aload_n 0, 1) := by decide +kernel
theorem dX12_goOn_94 : decode cX12_goOn 94 = .ok (.getfield 33, 3) := by decide +kernel
theorem dX12_goOn_97 : decode cX12_goOn 97 = .ok (.iload_n 2, 1) := by decide +kernel
theorem dX12_goOn_98 : decode cX12_goOn 98 = .ok (.aload_n 0, 1) := by decide +kernel
theorem dX12_goOn_99 : decode cX12_goOn 99 = .ok (.getfield 36, 3) := by decide +kernel
theorem dX12_goOn_102 : decode cX12_goOn 102 = .ok (.iload_n 2, 1) := by decide +kernel
theorem dX12_goOn_103 : decode cX12_goOn 103 = .ok (.baload, 1) := by decide +kernel
theorem dX12_goOn_104 : decode cX12_goOn 104 = .ok (.bastore, 1) := by decide +kernel
theorem dX12_goOn_105 : decode cX12_goOn 105 = .ok (.iinc 2 1, 3) := by decide +kernel
theorem dX12_goOn_108 : decode cX12_goOn 108 = .ok (.goto (-21), 3) := by decide +kernel
theorem dX12_goOn_111 : decode cX12_goOn 111 = .ok (.return_, 1) := by decide +kernel
theorem dX12_soonestFrom_0 : decode cX12_soonestFrom 0 = .ok (.iconst 0, 1) := by decide +kernel
theorem dX12_soonestFrom_1 : decode cX12_soonestFrom 1 = .ok (.istore_n 2, 1) := by decide +kernel
theorem dX12_soonestFrom_2 : decode cX12_soonestFrom 2 = .ok (.iload_n 2, 1) := by decide +kernel
theorem dX12_soonestFrom_3 : decode cX12_soonestFrom 3 = .ok (.bipush 47, 2) := by decide +kernel
theorem dX12_soonestFrom_5 : decode cX12_soonestFrom 5 = .ok (.if_icmp .gt 24, 3) := by decide +kernel
theorem dX12_soonestFrom_8 : decode cX12_soonestFrom 8 = .ok (.aload_n 0, 1) := by decide +kernel
theorem dX12_soonestFrom_9 : decode cX12_soonestFrom 9 = .ok (.getfield 33, 3) := by decide +kernel
theorem dX12_soonestFrom_12 : decode cX12_soonestFrom 12 = .ok (.iload_n 2, 1) := by decide +kernel
theorem dX12_soonestFrom_13 : decode cX12_soonestFrom 13 = .ok (.iload_n 2, 1) := by decide +kernel
theorem dX12_soonestFrom_14 : decode cX12_soonestFrom 14 = .ok (.ifCond .ne 7, 3) := by decide +kernel
theorem dX12_soonestFrom_17 : decode cX12_soonestFrom 17 = .ok (.iconst 1, 1) := by decide +kernel
theorem dX12_soonestFrom_18 : decode cX12_soonestFrom 18 = .ok (.goto 4, 3) := by decide +kernel
theorem dX12_soonestFrom_21 : decode cX12_soonestFrom 21 = .ok (.iconst 0, 1) := by decide +kernel
theorem dX12_soonestFrom_22 : decode cX12_soonestFrom 22 = .ok (.bastore, 1) := by decide +kernel
theorem dX12_soonestFrom_23 : decode cX12_soonestFrom 23 = .ok (.iinc 2 1, 3) := by decide +kernel
theorem dX12_soonestFrom_26 : decode cX12_soonestFrom 26 = .ok (.goto (-24), 3) := by decide +kernel
theorem dX12_soonestFrom_29 : decode cX12_soonestFrom 29 = .ok (.iload_n 1, 1) := by decide +kernel
theorem dX12_soonestFrom_30 : decode cX12_soonestFrom 30 = .ok (.istore_n 2, 1) := by decide +kernel
theorem dX12_soonestFrom_31 : decode cX12_soonestFrom 31 = .ok (.iload_n 2, 1) := by decide +kernel
theorem dX12_soonestFrom_32 : decode cX12_soonestFrom 32 = .ok (.bipush 60, 2) := by decide +kernel
theorem dX12_soonestFrom_34 : decode cX12_soonestFrom 34 = .ok (.if_icmp .ge 28, 3) := by decide +kernel
theorem dX12_soonestFrom_37 : decode cX12_soonestFrom 37 = .ok (.aload_n 0, 1) := by decide +kernel
theorem dX12_soonestFrom_38 : decode cX12_soonestFrom 38 = .ok (.iload_n 2, 1) := by decide +kernel
theorem dX12_soonestFrom_39 : decode cX12_soonestFrom 39 = .ok (.invokevirtual 171, 3) := by decide +kernel
theorem dX12_soonestFrom_42 : decode cX12_soonestFrom 42 = .ok (.aload_n 0, 1) := by decide +kernel
theorem dX12_soonestFrom_43 : decode cX12_soonestFrom 43 = .ok (.getfield 33, 3) := by decide +kernel
theorem dX12_soonestFrom_46 : decode cX12_soonestFrom 46 = .ok (.bipush 47, 2) := by decide +kernel
theorem dX12_soonestFrom_48 : decode cX12_soonestFrom 48 = .ok (.baload, 1) := by decide +kernel
theorem dX12_soonestFrom_49 : decode cX12_soonestFrom 49 = .ok (.ifCond .eq 7, 3) := by decide +kernel
theorem dX12_soonestFrom_52 : decode cX12_soonestFrom 52 = .ok (.iload_n 2, 1) := by decide +kernel
theorem dX12_soonestFrom_53 : decode cX12_soonestFrom 53 = .ok (.iconst 1, 1) := by decide +kernel
theorem dX12_soonestFrom_54 : decode cX12_soonestFrom 54 = .ok (.iadd, 1) := by decide +kernel
theorem dX12_soonestFrom_55 : decode cX12_soonestFrom 55 = .ok (.ireturn, 1) := by decide +kernel
theorem dX12_soonestFrom_56 : decode cX12_soonestFrom 56 = .ok (.iinc 2 1, 3) := by decide +kernel
theorem dX12_soonestFrom_59 : decode cX12_soonestFrom 59 = .ok (.goto (-28), 3) := by decide +kernel
theorem dX12_soonestFrom_62 : decode cX12_soonestFrom 62 = .ok (.bipush 61, 2) := by decide +kernel
theorem dX12_soonestFrom_64 : decode cX12_soonestFrom 64 = .ok (.ireturn, 1) := by decide +kernel
theorem dX12_soonest_0 : decode cX12_soonest 0 = .ok (.iload_n 1, 1) := by decide +kernel
theorem dX12_soonest_1 : decode cX12_soonest 1 = .ok (.invokestatic 149, 3) := by decide +kernel
theorem dX12_soonest_4 : decode cX12_soonest 4 = .ok (.ifCond .ne 10, 3) := by decide +kernel
theorem dX12_soonest_7 : decode cX12_soonest 7 = .ok (.aload_n 0, 1) := by decide +kernel
theorem dX12_soonest_8 : decode cX12_soonest 8 = .ok (.bipush (-2), 2) := by decide +kernel
theorem dX12_soonest_10 : decode cX12_soonest 10 = .ok (.invokevirtual 75, 3) := by decide +kernel
theorem dX12_soonest_13 : decode cX12_soonest 13 = .ok (.ireturn, 1) := by decide +kernel
theorem dX12_soonest_14 : decode cX12_soonest 14 = .ok (.aload_n 0, 1) := by decide +kernel
theorem dX12_soonest_15 : decode cX12_soonest 15 = .ok (.aload_n 0, 1) := by decide +kernel
theorem dX12_soonest_16 : decode cX12_soonest 16 = .ok (.invokevirtual 152, 3) := by decide +kernel
theorem dX12_soonest_19 : decode cX12_soonest 19 = .ok (.invokevirtual 155, 3) := by decide +kernel
theorem dX12_soonest_22 : decode cX12_soonest 22 = .ok (.aload_n 0, 1) := by decide +kernel
theorem dX12_soonest_23 : decode cX12_soonest 23 = .ok (.iload_n 1, 1) := by decide +kernel
theorem dX12_soonest_24 : decode cX12_soonest 24 = .ok (.invokevirtual 174, 3) := by decide +kernel
theorem dX12_soonest_27 : decode cX12_soonest 27 = .ok (.invokestatic 168, 3) := by decide +kernel
theorem dX12_soonest_30 : decode cX12_soonest 30 = .ok (.ireturn, 1) := by decide +kernel
theorem dX12_start_0 : decode cX12_start 0 = .ok (.iload_n 1, 1) := by decide +kernel
theorem dX12_start_1 : decode cX12_start 1 = .ok (.invokestatic 149, 3) := by decide +kernel
theorem dX12_start_4 : decode cX12_start 4 = .ok (.ifCond .ne 10, 3) := by decide +kernel
theorem dX12_start_7 : decode cX12_start 7 = .ok (.aload_n 0, 1) := by decide +kernel
theorem dX12_start_8 : decode cX12_start 8 = .ok (.bipush (-2), 2) := by decide +kernel
theorem dX12_start_10 : decode cX12_start 10 = .ok (.invokevirtual 75, 3) := by decide +kernel
theorem dX12_start_13 : decode cX12_start 13 = .ok (.ireturn, 1) := by decide +kernel
theorem dX12_start_14 : decode cX12_start 14 = .ok (.iconst (-1), 1) := by decide +kernel
theorem dX12_start_15 : decode cX12_start 15 = .ok (.istore_n 2, 1) := by decide +kernel
theorem dX12_start_16 : decode cX12_start 16 = .ok (.bipush 61, 2) := by decide +kernel
theorem dX12_start_18 : decode cX12_start 18 = .ok (.istore_n 3, 1) := by decide +kernel
theorem dX12_start_19 : decode cX12_start 19 = .ok (.aload_n 0, 1) := by decide +kernel
theorem dX12_start_20 : decode cX12_start 20 = .ok (.aload_n 0, 1) := by decide +kernel
theorem dX12_start_21 : decode cX12_start 21 = .ok (.invokevirtual 152, 3) := by decide +kernel
theorem dX12_start_24 : decode cX12_start 24 = .ok (.invokevirtual 155, 3) := by decide +kernel
theorem dX12_start_27 : decode cX12_start 27 = .ok (.iload_n 1, 1) := by decide +kernel
theorem dX12_start_28 : decode cX12_start 28 = .ok (.istore 4, 2) := by decide +kernel
theorem dX12_start_30 : decode cX12_start 30 = .ok (.iload 4, 2) := by decide +kernel
theorem dX12_start_32 : decode cX12_start 32 = .ok (.bipush 60, 2) := by decide +kernel
theorem dX12_start_34 : decode cX12_start 34 = .ok (.if_icmp .ge 44, 3) := by decide +kernel
theorem dX12_start_37 : decode cX12_start 37 = .ok (.aload_n 0, 1) := by decide +kernel
theorem dX12_start_38 : decode cX12_start 38 = .ok (.iload 4, 2) := by decide +kernel
theorem dX12_start_40 : decode cX12_start 40 = .ok (.invokevirtual 165, 3) := by decide +kernel
theorem dX12_start_43 : decode cX12_start 43 = .ok (.istore 5, 2) := by decide +kernel
theorem dX12_start_45 : decode cX12_start 45 = .ok (.iload 5, 2) := by decide +kernel
theorem dX12_start_47 : decode cX12_start 47 = .ok (.bipush 61, 2) := by decide +kernel
theorem dX12_start_49 : decode cX12_start 49 = .ok (.if_icmp .eq 14, 3) := by decide +kernel
theorem dX12_start_52 : decode cX12_start 52 = .ok (.iload 5, 2) := by decide +kernel
theorem dX12_start_54 : decode cX12_start 54 = .ok (.iload_n 3, 1) := by decide +kernel
theorem dX12_start_55 : decode cX12_start 55 = .ok (.if_icmp .gt 8, 3) := by decide +kernel
theorem dX12_start_58 : decode cX12_start 58 = .ok (.iload 4, 2) := by decide +kernel
theorem dX12_start_60 : decode cX12_start 60 = .ok (.goto 4, 3) := by decide +kernel
theorem dX12_start_63 : decode cX12_start 63 = .ok (.iload_n 2, 1) := by decide +kernel
theorem dX12_start_64 : decode cX12_start 64 = .ok (.istore_n 2, 1) := by decide +kernel
theorem dX12_start_65 : decode cX12_start 65 = .ok (.iload_n 3, 1) := by decide +kernel
theorem dX12_start_66 : decode cX12_start 66 = .ok (.iload 5, 2) := by decide +kernel
theorem dX12_start_68 : decode cX12_start 68 = .ok (.invokestatic 119, 3) := by decide +kernel
theorem dX12_start_71 : decode cX12_start 71 = .ok (.istore_n 3, 1) := by decide +kernel
theorem dX12_start_72 : decode cX12_start 72 = .ok (.iinc 4 1, 3) := by decide +kernel
theorem dX12_start_75 : decode cX12_start 75 = .ok (.goto (-45), 3) := by decide +kernel
theorem dX12_start_78 : decode cX12_start 78 = .ok (.iload_n 2, 1) := by decide +kernel
theorem dX12_start_79 : decode cX12_start 79 = .ok (.ireturn, 1) := by decide +kernel
theorem dX12_speed_0 : decode cX12_speed 0 = .ok (.iload_n 1, 1) := by decide +kernel
theorem dX12_speed_1 : decode cX12_speed 1 = .ok (.i2l, 1) := by decide +kernel
theorem dX12_speed_2 : decode cX12_speed 2 = .ok (.lconst 0, 1) := by decide +kernel
theorem dX12_speed_3 : decode cX12_speed 3 = .ok (.ldc2_w 177, 3) := by decide +kernel
theorem dX12_speed_6 : decode cX12_speed 6 = .ok (.invokestatic 65, 3) := by decide +kernel
theorem dX12_speed_9 : decode cX12_speed 9 = .ok (.ifCond .ne 10, 3) := by decide +kernel
theorem dX12_speed_12 : decode cX12_speed 12 = .ok (.aload_n 0, 1) := by decide +kernel
theorem dX12_speed_13 : decode cX12_speed 13 = .ok (.bipush (-2), 2) := by decide +kernel
theorem dX12_speed_15 : decode cX12_speed 15 = .ok (.invokevirtual 75, 3) := by decide +kernel
theorem dX12_speed_18 : decode cX12_speed 18 = .ok (.ireturn, 1) := by decide +kernel
theorem dX12_speed_19 : decode cX12_speed 19 = .ok (.aload_n 0, 1) := by decide +kernel
theorem dX12_speed_20 : decode cX12_speed 20 = .ok (.getfield 7, 3) := by decide +kernel
theorem dX12_speed_23 : decode cX12_speed 23 = .ok (.iconst 3, 1) := by decide +kernel
theorem dX12_speed_24 : decode cX12_speed 24 = .ok (.iaload, 1) := by decide +kernel
theorem dX12_speed_25 : decode cX12_speed 25 = .ok (.bipush 20, 2) := by decide +kernel
theorem dX12_speed_27 : decode cX12_speed 27 = .ok (.if_icmp .ne 8, 3) := by decide +kernel
theorem dX12_speed_30 : decode cX12_speed 30 = .ok (.aload_n 0, 1) := by decide +kernel
theorem dX12_speed_31 : decode cX12_speed 31 = .ok (.invokevirtual 91, 3) := by decide +kernel
theorem dX12_speed_34 : decode cX12_speed 34 = .ok (.ireturn, 1) := by decide +kernel
theorem dX12_speed_35 : decode cX12_speed 35 = .ok (.aload_n 0, 1) := by decide +kernel
theorem dX12_speed_36 : decode cX12_speed 36 = .ok (.getfield 7, 3) := by decide +kernel
theorem dX12_speed_39 : decode cX12_speed 39 = .ok (.bipush 36, 2) := by decide +kernel
theorem dX12_speed_41 : decode cX12_speed 41 = .ok (.aload_n 0, 1) := by decide +kernel
theorem dX12_speed_42 : decode cX12_speed 42 = .ok (.getfield 7, 3) := by decide +kernel
theorem dX12_speed_45 : decode cX12_speed 45 = .ok (.iconst 3, 1) := by decide +kernel
theorem dX12_speed_46 : decode cX12_speed 46 = .ok (.iaload, 1) := by decide +kernel
theorem dX12_speed_47 : decode cX12_speed 47 = .ok (.iadd, 1) := by decide +kernel
theorem dX12_speed_48 : decode cX12_speed 48 = .ok (.iload_n 1, 1) := by decide +kernel
theorem dX12_speed_49 : decode cX12_speed 49 = .ok (.iastore, 1) := by decide +kernel
theorem dX12_speed_50 : decode cX12_speed 50 = .ok (.aload_n 0, 1) := by decide +kernel
theorem dX12_speed_51 : decode cX12_speed 51 = .ok (.getfield 7, 3) := by decide +kernel
theorem dX12_speed_54 : decode cX12_speed 54 = .ok (.iconst 3, 1) := by decide +kernel
theorem dX12_speed_55 : decode cX12_speed 55 = .ok (.dup2, 1) := by decide +kernel
theorem dX12_speed_56 : decode cX12_speed 56 = .ok (.iaload, 1) := by decide +kernel
theorem dX12_speed_57 : decode cX12_speed 57 = .ok (.iconst 1, 1) := by decide +kernel
theorem dX12_speed_58 : decode cX12_speed 58 = .ok (.iadd, 1) := by decide +kernel
theorem dX12_speed_59 : decode cX12_speed 59 = .ok (.iastore, 1) := by decide +kernel
theorem dX12_speed_60 : decode cX12_speed 60 = .ok (.aload_n 0, 1) := by decide +kernel
theorem dX12_speed_61 : decode cX12_speed 61 = .ok (.getfield 7, 3) := by decide +kernel
theorem dX12_speed_64 : decode cX12_speed 64 = .ok (.iconst 3, 1) := by decide +kernel
theorem dX12_speed_65 : decode cX12_speed 65 = .ok (.iaload, 1) := by decide +kernel
theorem dX12_speed_66 : decode cX12_speed 66 = .ok (.ireturn, 1) := by decide +kernel
theorem dX12_stop_0 : decode cX12_stop 0 = .ok (.aload_n 0, 1) := by decide +kernel
theorem dX12_stop_1 : decode cX12_stop 1 = .ok (.getfield 7, 3) := by decide +kernel
theorem dX12_stop_4 : decode cX12_stop 4 = .ok (.iconst 3, 1) := by decide +kernel
theorem dX12_stop_5 : decode cX12_stop 5 = .ok (.iaload, 1) := by decide +kernel
theorem dX12_stop_6 : decode cX12_stop 6 = .ok (.istore_n 1, 1) := by decide +kernel
theorem dX12_stop_7 : decode cX12_stop 7 = .ok (.aload_n 0, 1) := by decide +kernel
theorem dX12_stop_8 : decode cX12_stop 8 = .ok (.getfield 7, 3) := by decide +kernel
theorem dX12_stop_11 : decode cX12_stop 11 = .ok (.iconst 3, 1) := by decide +kernel
theorem dX12_stop_12 : decode cX12_stop 12 = .ok (.iconst 0, 1) := by decide +kernel
theorem dX12_stop_13 : decode cX12_stop 13 = .ok (.iastore, 1) := by decide +kernel
theorem dX12_stop_14 : decode cX12_stop 14 = .ok (.iload_n 1, 1) := by decide +kernel
theorem dX12_stop_15 : decode cX12_stop 15 = .ok (.ireturn, 1) := by decide +kernel
theorem dX12_pastIn_0 : decode cX12_pastIn 0 = .ok (.iconst 0, 1) := by decide +kernel
theorem dX12_pastIn_1 : decode cX12_pastIn 1 = .ok (.istore 4, 2) := by decide +kernel
theorem dX12_pastIn_3 : decode cX12_pastIn 3 = .ok (.iconst 0, 1) := by decide +kernel
theorem dX12_pastIn_4 : decode cX12_pastIn 4 = .ok (.istore 5, 2) := by decide +kernel
theorem dX12_pastIn_6 : decode cX12_pastIn 6 = .ok (.iload 5, 2) := by decide +kernel
theorem dX12_pastIn_8 : decode cX12_pastIn 8 = .ok (.aload_n 0, 1) := by decide +kernel
theorem dX12_pastIn_9 : decode cX12_pastIn 9 = .ok (.invokevirtual 61, 3) := by decide +kernel
theorem dX12_pastIn_12 : decode cX12_pastIn 12 = .ok (.if_icmp .ge 55, 3) := by decide +kernel
theorem dX12_pastIn_15 : decode cX12_pastIn 15 = .ok (.iload_n 2, 1) := by decide +kernel
theorem dX12_pastIn_16 : decode cX12_pastIn 16 = .ok (.iload_n 1, 1) := by decide +kernel
theorem dX12_pastIn_17 : decode cX12_pastIn 17 = .ok (.if_icmp .le 50, 3) := by decide +kernel
theorem dX12_pastIn_20 : decode cX12_pastIn 20 = .ok (.iload 4, 2) := by decide +kernel
theorem dX12_pastIn_22 : decode cX12_pastIn 22 = .ok (.aload_n 0, 1) := by decide +kernel
theorem dX12_pastIn_23 : decode cX12_pastIn 23 = .ok (.iload 5, 2) := by decide +kernel
theorem dX12_pastIn_25 : decode cX12_pastIn 25 = .ok (.iload_n 3, 1) := by decide +kernel
theorem dX12_pastIn_26 : decode cX12_pastIn 26 = .ok (.invokevirtual 125, 3) := by decide +kernel
theorem dX12_pastIn_29 : decode cX12_pastIn 29 = .ok (.ifCond .eq 28, 3) := by decide +kernel
theorem dX12_pastIn_32 : decode cX12_pastIn 32 = .ok (.aload_n 0, 1) := by decide +kernel
theorem dX12_pastIn_33 : decode cX12_pastIn 33 = .ok (.iload 5, 2) := by decide +kernel
theorem dX12_pastIn_35 : decode cX12_pastIn 35 = .ok (.iload_n 3, 1) := by decide +kernel
theorem dX12_pastIn_36 : decode cX12_pastIn 36 = .ok (.invokevirtual 129, 3) := by decide +kernel
theorem dX12_pastIn_39 : decode cX12_pastIn 39 = .ok (.i2l, 1) := by decide +kernel
theorem dX12_pastIn_40 : decode cX12_pastIn 40 = .ok (.iload_n 1, 1) := by decide +kernel
theorem dX12_pastIn_41 : decode cX12_pastIn 41 = .ok (.i2l, 1) := by decide +kernel
theorem dX12_pastIn_42 : decode cX12_pastIn 42 = .ok (.iload_n 2, 1) := by decide +kernel
theorem dX12_pastIn_43 : decode cX12_pastIn 43 = .ok (.i2l, 1) := by decide +kernel
theorem dX12_pastIn_44 : decode cX12_pastIn 44 = .ok (.invokestatic 65, 3) := by decide +kernel
theorem dX12_pastIn_47 : decode cX12_pastIn 47 = .ok (.ifCond .eq 10, 3) := by decide +kernel
theorem dX12_pastIn_50 : decode cX12_pastIn 50 = .ok (.iconst 1, 1) := by decide +kernel
theorem dX12_pastIn_51 : decode cX12_pastIn 51 = .ok (.iload 5, 2) := by decide +kernel
theorem dX12_pastIn_53 : decode cX12_pastIn 53 = .ok (.ishl, 1) := by decide +kernel
theorem dX12_pastIn_54 : decode cX12_pastIn 54 = .ok (.goto 4, 3) := by decide +kernel
theorem dX12_pastIn_57 : decode cX12_pastIn 57 = .ok (.iconst 0, 1) := by decide +kernel
theorem dX12_pastIn_58 : decode cX12_pastIn 58 = .ok (.ior, 1) := by decide +kernel
theorem dX12_pastIn_59 : decode cX12_pastIn 59 = .ok (.istore 4, 2) := by decide +kernel
theorem dX12_pastIn_61 : decode cX12_pastIn 61 = .ok (.iinc 5 1, 3) := by decide +kernel
theorem dX12_pastIn_64 : decode cX12_pastIn 64 = .ok (.goto (-58), 3) := by decide +kernel
theorem dX12_pastIn_67 : decode cX12_pastIn 67 = .ok (.iload 4, 2) := by decide +kernel
theorem dX12_pastIn_69 : decode cX12_pastIn 69 = .ok (.ireturn, 1) := by decide +kernel
theorem dX12_fined_0 : decode cX12_fined 0 = .ok (.iload_n 1, 1) := by decide +kernel
theorem dX12_fined_1 : decode cX12_fined 1 = .ok (.invokestatic 149, 3) := by decide +kernel
theorem dX12_fined_4 : decode cX12_fined 4 = .ok (.ifCond .eq 15, 3) := by decide +kernel
theorem dX12_fined_7 : decode cX12_fined 7 = .ok (.iload_n 2, 1) := by decide +kernel
theorem dX12_fined_8 : decode cX12_fined 8 = .ok (.i2l, 1) := by decide +kernel
theorem dX12_fined_9 : decode cX12_fined 9 = .ok (.lconst 0, 1) := by decide +kernel
theorem dX12_fined_10 : decode cX12_fined 10 = .ok (.ldc2_w 73, 3) := by decide +kernel
theorem dX12_fined_13 : decode cX12_fined 13 = .ok (.invokestatic 65, 3) := by decide +kernel
theorem dX12_fined_16 : decode cX12_fined 16 = .ok (.ifCond .ne 10, 3) := by decide +kernel
theorem dX12_fined_19 : decode cX12_fined 19 = .ok (.aload_n 0, 1) := by decide +kernel
theorem dX12_fined_20 : decode cX12_fined 20 = .ok (.bipush (-10), 2) := by decide +kernel
theorem dX12_fined_22 : decode cX12_fined 22 = .ok (.invokevirtual 75, 3) := by decide +kernel
theorem dX12_fined_25 : decode cX12_fined 25 = .ok (.ireturn, 1) := by decide +kernel
theorem dX12_fined_26 : decode cX12_fined 26 = .ok (.iconst 0, 1) := by decide +kernel
theorem dX12_fined_27 : decode cX12_fined 27 = .ok (.istore_n 3, 1) := by decide +kernel
theorem dX12_fined_28 : decode cX12_fined 28 = .ok (.iconst (-1), 1) := by decide +kernel
theorem dX12_fined_29 : decode cX12_fined 29 = .ok (.istore 4, 2) := by decide +kernel
theorem dX12_fined_31 : decode cX12_fined 31 = .ok (.iconst 0, 1) := by decide +kernel
theorem dX12_fined_32 : decode cX12_fined 32 = .ok (.istore 5, 2) := by decide +kernel
theorem dX12_fined_34 : decode cX12_fined 34 = .ok (.iconst 0, 1) := by decide +kernel
theorem dX12_fined_35 : decode cX12_fined 35 = .ok (.istore 6, 2) := by decide +kernel
theorem dX12_fined_37 : decode cX12_fined 37 = .ok (.aload_n 0, 1) := by decide +kernel
theorem dX12_fined_38 : decode cX12_fined 38 = .ok (.aload_n 0, 1) := by decide +kernel
theorem dX12_fined_39 : decode cX12_fined 39 = .ok (.invokevirtual 152, 3) := by decide +kernel
theorem dX12_fined_42 : decode cX12_fined 42 = .ok (.invokevirtual 155, 3) := by decide +kernel
theorem dX12_fined_45 : decode cX12_fined 45 = .ok (.iconst 0, 1) := by decide +kernel
theorem dX12_fined_46 : decode cX12_fined 46 = .ok (.istore 7, 2) := by decide +kernel
theorem dX12_fined_48 : decode cX12_fined 48 = .ok (.iload 7, 2) := by decide +kernel
theorem dX12_fined_50 : decode cX12_fined 50 = .ok (.aload_n 0, 1) := by decide +kernel
theorem dX12_fined_51 : decode cX12_fined 51 = .ok (.getfield 7, 3) := by decide +kernel
theorem dX12_fined_54 : decode cX12_fined 54 = .ok (.iconst 3, 1) := by decide +kernel
theorem dX12_fined_55 : decode cX12_fined 55 = .ok (.iaload, 1) := by decide +kernel
theorem dX12_fined_56 : decode cX12_fined 56 = .ok (.if_icmp .ge 105, 3) := by decide +kernel
theorem dX12_fined_59 : decode cX12_fined 59 = .ok (.iload_n 1, 1) := by decide +kernel
theorem dX12_fined_60 : decode cX12_fined 60 = .ok (.iload 7, 2) := by decide +kernel
theorem dX12_fined_62 : decode cX12_fined 62 = .ok (.iadd, 1) := by decide +kernel
theorem dX12_fined_63 : decode cX12_fined 63 = .ok (.bipush 60, 2) := by decide +kernel
theorem dX12_fined_65 : decode cX12_fined 65 = .ok (.if_icmp .ge 96, 3) := by decide +kernel
theorem dX12_fined_68 : decode cX12_fined 68 = .ok (.aload_n 0, 1) := by decide +kernel
theorem dX12_fined_69 : decode cX12_fined 69 = .ok (.getfield 7, 3) := by decide +kernel
theorem dX12_fined_72 : decode cX12_fined 72 = .ok (.bipush 36, 2) := by decide +kernel
theorem dX12_fined_74 : decode cX12_fined 74 = .ok (.iload 7, 2) := by decide +kernel
theorem dX12_fined_76 : decode cX12_fined 76 = .ok (.iadd, 1) := by decide +kernel
theorem dX12_fined_77 : decode cX12_fined 77 = .ok (.iaload, 1) := by decide +kernel
theorem dX12_fined_78 : decode cX12_fined 78 = .ok (.istore 8, 2) := by decide +kernel
theorem dX12_fined_80 : decode cX12_fined 80 = .ok (.iload 8, 2) := by decide +kernel
theorem dX12_fined_82 : decode cX12_fined 82 = .ok (.aload_n 0, 1) := by decide +kernel
theorem dX12_fined_83 : decode cX12_fined 83 = .ok (.iload_n 3, 1) := by decide +kernel
theorem dX12_fined_84 : decode cX12_fined 84 = .ok (.iload_n 1, 1) := by decide +kernel
theorem dX12_fined_85 : decode cX12_fined 85 = .ok (.iload 7, 2) := by decide +kernel
theorem dX12_fined_87 : decode cX12_fined 87 = .ok (.iadd, 1) := by decide +kernel
theorem dX12_fined_88 : decode cX12_fined 88 = .ok (.invokevirtual 159, 3) := by decide +kernel
theorem dX12_fined_91 : decode cX12_fined 91 = .ok (.isub, 1) := by decide +kernel
theorem dX12_fined_92 : decode cX12_fined 92 = .ok (.istore 9, 2) := by decide +kernel
theorem dX12_fined_94 : decode cX12_fined 94 = .ok (.bipush 47, 2) := by decide +kernel
theorem dX12_fined_96 : decode cX12_fined 96 = .ok (.iload_n 3, 1) := by decide +kernel
theorem dX12_fined_97 : decode cX12_fined 97 = .ok (.iload 8, 2) := by decide +kernel
theorem dX12_fined_99 : decode cX12_fined 99 = .ok (.iadd, 1) := by decide +kernel
theorem dX12_fined_100 : decode cX12_fined 100 = .ok (.invokestatic 119, 3) := by decide +kernel
theorem dX12_fined_103 : decode cX12_fined 103 = .ok (.istore 10, 2) := by decide +kernel
theorem dX12_fined_105 : decode cX12_fined 105 = .ok (.iload 9, 2) := by decide +kernel
theorem dX12_fined_107 : decode cX12_fined 107 = .ok (.ifCond .le 14, 3) := by decide +kernel
theorem dX12_fined_110 : decode cX12_fined 110 = .ok (.iload 4, 2) := by decide +kernel
theorem dX12_fined_112 : decode cX12_fined 112 = .ok (.iconst (-1), 1) := by decide +kernel
theorem dX12_fined_113 : decode cX12_fined 113 = .ok (.if_icmp .ne 8, 3) := by decide +kernel
theorem dX12_fined_116 : decode cX12_fined 116 = .ok (.iload 7, 2) := by decide +kernel
theorem dX12_fined_118 : decode cX12_fined 118 = .ok (.goto 5, 3) := by decide +kernel
theorem dX12_fined_121 : decode cX12_fined 121 = .ok (.iload 4, 2) := by decide +kernel
theorem dX12_fined_123 : decode cX12_fined 123 = .ok (.istore 4, 2) := by decide +kernel
theorem dX12_fined_125 : decode cX12_fined 125 = .ok (.iload 5, 2) := by decide +kernel
theorem dX12_fined_127 : decode cX12_fined 127 = .ok (.iconst 0, 1) := by decide +kernel
theorem dX12_fined_128 : decode cX12_fined 128 = .ok (.iload 9, 2) := by decide +kernel
theorem dX12_fined_130 : decode cX12_fined 130 = .ok (.invokestatic 122, 3) := by decide +kernel
theorem dX12_fined_133 : decode cX12_fined 133 = .ok (.iadd, 1) := by decide +kernel
theorem dX12_fined_134 : decode cX12_fined 134 = .ok (.istore 5, 2) := by decide +kernel
theorem dX12_fined_136 : decode cX12_fined 136 = .ok (.iload 6, 2) := by decide +kernel
theorem dX12_fined_138 : decode cX12_fined 138 = .ok (.aload_n 0, 1) := by decide +kernel
theorem dX12_fined_139 : decode cX12_fined 139 = .ok (.iload_n 3, 1) := by decide +kernel
theorem dX12_fined_140 : decode cX12_fined 140 = .ok (.iload 10, 2) := by decide +kernel
theorem dX12_fined_142 : decode cX12_fined 142 = .ok (.iload_n 1, 1) := by decide +kernel
theorem dX12_fined_143 : decode cX12_fined 143 = .ok (.iload 7, 2) := by decide +kernel
theorem dX12_fined_145 : decode cX12_fined 145 = .ok (.iadd, 1) := by decide +kernel
theorem dX12_fined_146 : decode cX12_fined 146 = .ok (.invokevirtual 179, 3) := by decide +kernel
theorem dX12_fined_149 : decode cX12_fined 149 = .ok (.ior, 1) := by decide +kernel
theorem dX12_fined_150 : decode cX12_fined 150 = .ok (.istore 6, 2) := by decide +kernel
theorem dX12_fined_152 : decode cX12_fined 152 = .ok (.iload 10, 2) := by decide +kernel
theorem dX12_fined_154 : decode cX12_fined 154 = .ok (.istore_n 3, 1) := by decide +kernel
theorem dX12_fined_155 : decode cX12_fined 155 = .ok (.iinc 7 1, 3) := by decide +kernel
theorem dX12_fined_158 : decode cX12_fined 158 = .ok (.goto (-110), 3) := by decide +kernel
theorem dX12_fined_161 : decode cX12_fined 161 = .ok (.iload_n 2, 1) := by decide +kernel
theorem dX12_fined_162 : decode cX12_fined 162 = .ok (.ifCond .ne 8, 3) := by decide +kernel
theorem dX12_fined_165 : decode cX12_fined 165 = .ok (.iload 4, 2) := by decide +kernel
theorem dX12_fined_167 : decode cX12_fined 167 = .ok (.goto 15, 3) := by decide +kernel
theorem dX12_fined_170 : decode cX12_fined 170 = .ok (.iload_n 2, 1) := by decide +kernel
theorem dX12_fined_171 : decode cX12_fined 171 = .ok (.iconst 1, 1) := by decide +kernel
theorem dX12_fined_172 : decode cX12_fined 172 = .ok (.if_icmp .ne 8, 3) := by decide +kernel
theorem dX12_fined_175 : decode cX12_fined 175 = .ok (.iload 5, 2) := by decide +kernel
theorem dX12_fined_177 : decode cX12_fined 177 = .ok (.goto 5, 3) := by decide +kernel
theorem dX12_fined_180 : decode cX12_fined 180 = .ok (.iload 6, 2) := by decide +kernel
theorem dX12_fined_182 : decode cX12_fined 182 = .ok (.ireturn, 1) := by decide +kernel
theorem dX12_toBed_0 : decode cX12_toBed 0 = .ok (.iload_n 1, 1) := by decide +kernel
theorem dX12_toBed_1 : decode cX12_toBed 1 = .ok (.invokestatic 149, 3) := by decide +kernel
theorem dX12_toBed_4 : decode cX12_toBed 4 = .ok (.ifCond .eq 25, 3) := by decide +kernel
theorem dX12_toBed_7 : decode cX12_toBed 7 = .ok (.iload_n 2, 1) := by decide +kernel
theorem dX12_toBed_8 : decode cX12_toBed 8 = .ok (.i2l, 1) := by decide +kernel
theorem dX12_toBed_9 : decode cX12_toBed 9 = .ok (.lconst 0, 1) := by decide +kernel
theorem dX12_toBed_10 : decode cX12_toBed 10 = .ok (.ldc2_w 182, 3) := by decide +kernel
theorem dX12_toBed_13 : decode cX12_toBed 13 = .ok (.invokestatic 65, 3) := by decide +kernel
theorem dX12_toBed_16 : decode cX12_toBed 16 = .ok (.ifCond .eq 13, 3) := by decide +kernel
theorem dX12_toBed_19 : decode cX12_toBed 19 = .ok (.iload_n 3, 1) := by decide +kernel
theorem dX12_toBed_20 : decode cX12_toBed 20 = .ok (.i2l, 1) := by decide +kernel
theorem dX12_toBed_21 : decode cX12_toBed 21 = .ok (.lconst 0, 1) := by decide +kernel
theorem dX12_toBed_22 : decode cX12_toBed 22 = .ok (.lconst 1, 1) := by decide +kernel
theorem dX12_toBed_23 : decode cX12_toBed 23 = .ok (.invokestatic 65, 3) := by decide +kernel
theorem dX12_toBed_26 : decode cX12_toBed 26 = .ok (.ifCond .ne 10, 3) := by decide +kernel
theorem dX12_toBed_29 : decode cX12_toBed 29 = .ok (.aload_n 0, 1) := by decide +kernel
theorem dX12_toBed_30 : decode cX12_toBed 30 = .ok (.bipush (-2), 2) := by decide +kernel
theorem dX12_toBed_32 : decode cX12_toBed 32 = .ok (.invokevirtual 75, 3) := by decide +kernel
theorem dX12_toBed_35 : decode cX12_toBed 35 = .ok (.ireturn, 1) := by decide +kernel
theorem dX12_toBed_36 : decode cX12_toBed 36 = .ok (.iconst 0, 1) := by decide +kernel
theorem dX12_toBed_37 : decode cX12_toBed 37 = .ok (.istore 4, 2) := by decide +kernel
theorem dX12_toBed_39 : decode cX12_toBed 39 = .ok (.ldc 139, 2) := by decide +kernel
theorem dX12_toBed_41 : decode cX12_toBed 41 = .ok (.istore 5, 2) := by decide +kernel
theorem dX12_toBed_43 : decode cX12_toBed 43 = .ok (.iconst 0, 1) := by decide +kernel
theorem dX12_toBed_44 : decode cX12_toBed 44 = .ok (.istore 6, 2) := by decide +kernel
theorem dX12_toBed_46 : decode cX12_toBed 46 = .ok (.iload 6, 2) := by decide +kernel
theorem dX12_toBed_48 : decode cX12_toBed 48 = .ok (.aload_n 0, 1) := by decide +kernel
theorem dX12_toBed_49 : decode cX12_toBed 49 = .ok (.invokevirtual 152, 3) := by decide +kernel
theorem dX12_toBed_52 : decode cX12_toBed 52 = .ok (.if_icmp .gt 100, 3) := by decide +kernel
theorem dX12_toBed_55 : decode cX12_toBed 55 = .ok (.iload 6, 2) := by decide +kernel
theorem dX12_toBed_57 : decode cX12_toBed 57 = .ok (.invokestatic 184, 3) := by decide +kernel
theorem dX12_toBed_60 : decode cX12_toBed 60 = .ok (.iload_n 2, 1) := by decide +kernel
theorem dX12_toBed_61 : decode cX12_toBed 61 = .ok (.if_icmp .gt 85, 3) := by decide +kernel
theorem dX12_toBed_64 : decode cX12_toBed 64 = .ok (.aload_n 0, 1) := by decide +kernel
theorem dX12_toBed_65 : decode cX12_toBed 65 = .ok (.aload_n 0, 1) := by decide +kernel
theorem dX12_toBed_66 : decode cX12_toBed 66 = .ok (.invokevirtual 152, 3) := by decide +kernel
theorem dX12_toBed_69 : decode cX12_toBed 69 = .ok (.iload 6, 2) := by decide +kernel
theorem dX12_toBed_71 : decode cX12_toBed 71 = .ok (.iconst (-1), 1) := by decide +kernel
theorem dX12_toBed_72 : decode cX12_toBed 72 = .ok (.ixor, 1) := by decide +kernel
theorem dX12_toBed_73 : decode cX12_toBed 73 = .ok (.iand, 1) := by decide +kernel
theorem dX12_toBed_74 : decode cX12_toBed 74 = .ok (.invokevirtual 155, 3) := by decide +kernel
theorem dX12_toBed_77 : decode cX12_toBed 77 = .ok (.aload_n 0, 1) := by decide +kernel
theorem dX12_toBed_78 : decode cX12_toBed 78 = .ok (.iload_n 1, 1) := by decide +kernel
theorem dX12_toBed_79 : decode cX12_toBed 79 = .ok (.invokevirtual 174, 3) := by decide +kernel
theorem dX12_toBed_82 : decode cX12_toBed 82 = .ok (.istore 7, 2) := by decide +kernel
theorem dX12_toBed_84 : decode cX12_toBed 84 = .ok (.iload 7, 2) := by decide +kernel
theorem dX12_toBed_86 : decode cX12_toBed 86 = .ok (.iload 5, 2) := by decide +kernel
theorem dX12_toBed_88 : decode cX12_toBed 88 = .ok (.if_icmp .lt 23, 3) := by decide +kernel
theorem dX12_toBed_91 : decode cX12_toBed 91 = .ok (.iload 7, 2) := by decide +kernel
theorem dX12_toBed_93 : decode cX12_toBed 93 = .ok (.iload 5, 2) := by decide +kernel
theorem dX12_toBed_95 : decode cX12_toBed 95 = .ok (.if_icmp .ne 20, 3) := by decide +kernel
theorem dX12_toBed_98 : decode cX12_toBed 98 = .ok (.iload 6, 2) := by decide +kernel
theorem dX12_toBed_100 : decode cX12_toBed 100 = .ok (.invokestatic 184, 3) := by decide +kernel
theorem dX12_toBed_103 : decode cX12_toBed 103 = .ok (.iload 4, 2) := by decide +kernel
theorem dX12_toBed_105 : decode cX12_toBed 105 = .ok (.invokestatic 184, 3) := by decide +kernel
theorem dX12_toBed_108 : decode cX12_toBed 108 = .ok (.if_icmp .ge 7, 3) := by decide +kernel
theorem dX12_toBed_111 : decode cX12_toBed 111 = .ok (.iconst 1, 1) := by decide +kernel
theorem dX12_toBed_112 : decode cX12_toBed 112 = .ok (.goto 4, 3) := by decide +kernel
theorem dX12_toBed_115 : decode cX12_toBed 115 = .ok (.iconst 0, 1) := by decide +kernel
theorem dX12_toBed_116 : decode cX12_toBed 116 = .ok (.istore 8, 2) := by decide +kernel
theorem dX12_toBed_118 : decode cX12_toBed 118 = .ok (.iload 8, 2) := by decide +kernel
theorem dX12_toBed_120 : decode cX12_toBed 120 = .ok (.ifCond .eq 8, 3) := by decide +kernel
theorem dX12_toBed_123 : decode cX12_toBed 123 = .ok (.iload 6, 2) := by decide +kernel
theorem dX12_toBed_125 : decode cX12_toBed 125 = .ok (.goto 5, 3) := by decide +kernel
theorem dX12_toBed_128 : decode cX12_toBed 128 = .ok (.iload 4, 2) := by decide +kernel
theorem dX12_toBed_130 : decode cX12_toBed 130 = .ok (.istore 4, 2) := by decide +kernel
theorem dX12_toBed_132 : decode cX12_toBed 132 = .ok (.iload 8, 2) := by decide +kernel
theorem dX12_toBed_134 : decode cX12_toBed 134 = .ok (.ifCond .eq 8, 3) := by decide +kernel
theorem dX12_toBed_137 : decode cX12_toBed 137 = .ok (.iload 7, 2) := by decide +kernel
theorem dX12_toBed_139 : decode cX12_toBed 139 = .ok (.goto 5, 3) := by decide +kernel
theorem dX12_toBed_142 : decode cX12_toBed 142 = .ok (.iload 5, 2) := by decide +kernel
theorem dX12_toBed_144 : decode cX12_toBed 144 = .ok (.istore 5, 2) := by decide +kernel
theorem dX12_toBed_146 : decode cX12_toBed 146 = .ok (.iinc 6 1, 3) := by decide +kernel
theorem dX12_toBed_149 : decode cX12_toBed 149 = .ok (.goto (-103), 3) := by decide +kernel
theorem dX12_toBed_152 : decode cX12_toBed 152 = .ok (.iload_n 3, 1) := by decide +kernel
theorem dX12_toBed_153 : decode cX12_toBed 153 = .ok (.ifCond .ne 8, 3) := by decide +kernel
theorem dX12_toBed_156 : decode cX12_toBed 156 = .ok (.iload 4, 2) := by decide +kernel
theorem dX12_toBed_158 : decode cX12_toBed 158 = .ok (.goto 5, 3) := by decide +kernel
theorem dX12_toBed_161 : decode cX12_toBed 161 = .ok (.iload 5, 2) := by decide +kernel
theorem dX12_toBed_163 : decode cX12_toBed 163 = .ok (.ireturn, 1) := by decide +kernel
theorem dX12_move_0 : decode cX12_move 0 = .ok (.iload_n 1, 1) := by decide +kernel
theorem dX12_move_1 : decode cX12_move 1 = .ok (.invokestatic 149, 3) := by decide +kernel
theorem dX12_move_4 : decode cX12_move 4 = .ok (.ifCond .ne 10, 3) := by decide +kernel
theorem dX12_move_7 : decode cX12_move 7 = .ok (.aload_n 0, 1) := by decide +kernel
theorem dX12_move_8 : decode cX12_move 8 = .ok (.bipush (-2), 2) := by decide +kernel
theorem dX12_move_10 : decode cX12_move 10 = .ok (.invokevirtual 75, 3) := by decide +kernel
theorem dX12_move_13 : decode cX12_move 13 = .ok (.ireturn, 1) := by decide +kernel
theorem dX12_move_14 : decode cX12_move 14 = .ok (.aload_n 0, 1) := by decide +kernel
theorem dX12_move_15 : decode cX12_move 15 = .ok (.aload_n 0, 1) := by decide +kernel
theorem dX12_move_16 : decode cX12_move 16 = .ok (.invokevirtual 152, 3) := by decide +kernel
theorem dX12_move_19 : decode cX12_move 19 = .ok (.invokevirtual 155, 3) := by decide +kernel
theorem dX12_move_22 : decode cX12_move 22 = .ok (.iconst (-1), 1) := by decide +kernel
theorem dX12_move_23 : decode cX12_move 23 = .ok (.istore_n 2, 1) := by decide +kernel
theorem dX12_move_24 : decode cX12_move 24 = .ok (.aload_n 0, 1) := by decide +kernel
theorem dX12_move_25 : decode cX12_move 25 = .ok (.iload_n 1, 1) := by decide +kernel
theorem dX12_move_26 : decode cX12_move 26 = .ok (.invokevirtual 165, 3) := by decide +kernel
theorem dX12_move_29 : decode cX12_move 29 = .ok (.istore_n 3, 1) := by decide +kernel
theorem dX12_move_30 : decode cX12_move 30 = .ok (.iconst 0, 1) := by decide +kernel
theorem dX12_move_31 : decode cX12_move 31 = .ok (.istore 4, 2) := by decide +kernel
theorem dX12_move_33 : decode cX12_move 33 = .ok (.iload 4, 2) := by decide +kernel
theorem dX12_move_35 : decode cX12_move 35 = .ok (.aload_n 0, 1) := by decide +kernel
theorem dX12_move_36 : decode cX12_move 36 = .ok (.invokevirtual 61, 3) := by decide +kernel
theorem dX12_move_39 : decode cX12_move 39 = .ok (.if_icmp .ge 81, 3) := by decide +kernel
theorem dX12_move_42 : decode cX12_move 42 = .ok (.iconst 0, 1) := by decide +kernel
theorem dX12_move_43 : decode cX12_move 43 = .ok (.istore 5, 2) := by decide +kernel
theorem dX12_move_45 : decode cX12_move 45 = .ok (.iload 5, 2) := by decide +kernel
theorem dX12_move_47 : decode cX12_move 47 = .ok (.bipush 47, 2) := by decide +kernel
theorem dX12_move_49 : decode cX12_move 49 = .ok (.if_icmp .gt 51, 3) := by decide +kernel
theorem dX12_move_52 : decode cX12_move 52 = .ok (.aload_n 0, 1) := by decide +kernel
theorem dX12_move_53 : decode cX12_move 53 = .ok (.getfield 30, 3) := by decide +kernel
theorem dX12_move_56 : decode cX12_move 56 = .ok (.iload 4, 2) := by decide +kernel
theorem dX12_move_58 : decode cX12_move 58 = .ok (.iload 5, 2) := by decide +kernel
theorem dX12_move_60 : decode cX12_move 60 = .ok (.iastore, 1) := by decide +kernel
theorem dX12_move_61 : decode cX12_move 61 = .ok (.aload_n 0, 1) := by decide +kernel
theorem dX12_move_62 : decode cX12_move 62 = .ok (.iload_n 1, 1) := by decide +kernel
theorem dX12_move_63 : decode cX12_move 63 = .ok (.invokevirtual 165, 3) := by decide +kernel
theorem dX12_move_66 : decode cX12_move 66 = .ok (.istore 6, 2) := by decide +kernel
theorem dX12_move_68 : decode cX12_move 68 = .ok (.iload 6, 2) := by decide +kernel
theorem dX12_move_70 : decode cX12_move 70 = .ok (.iload_n 3, 1) := by decide +kernel
theorem dX12_move_71 : decode cX12_move 71 = .ok (.if_icmp .ge 14, 3) := by decide +kernel
theorem dX12_move_74 : decode cX12_move 74 = .ok (.bipush 100, 2) := by decide +kernel
theorem dX12_move_76 : decode cX12_move 76 = .ok (.iload 4, 2) := by decide +kernel
theorem dX12_move_78 : decode cX12_move 78 = .ok (.imul, 1) := by decide +kernel
theorem dX12_move_79 : decode cX12_move 79 = .ok (.iload 5, 2) := by decide +kernel
theorem dX12_move_81 : decode cX12_move 81 = .ok (.iadd, 1) := by decide +kernel
theorem dX12_move_82 : decode cX12_move 82 = .ok (.goto 4, 3) := by decide +kernel
theorem dX12_move_85 : decode cX12_move 85 = .ok (.iload_n 2, 1) := by decide +kernel
theorem dX12_move_86 : decode cX12_move 86 = .ok (.istore_n 2, 1) := by decide +kernel
theorem dX12_move_87 : decode cX12_move 87 = .ok (.iload_n 3, 1) := by decide +kernel
theorem dX12_move_88 : decode cX12_move 88 = .ok (.iload 6, 2) := by decide +kernel
theorem dX12_move_90 : decode cX12_move 90 = .ok (.invokestatic 119, 3) := by decide +kernel
theorem dX12_move_93 : decode cX12_move 93 = .ok (.istore_n 3, 1) := by decide +kernel
theorem dX12_move_94 : decode cX12_move 94 = .ok (.iinc 5 1, 3) := by decide +kernel
theorem dX12_move_97 : decode cX12_move 97 = .ok (.goto (-52), 3) := by decide +kernel
theorem dX12_move_100 : decode cX12_move 100 = .ok (.aload_n 0, 1) := by decide +kernel
theorem dX12_move_101 : decode cX12_move 101 = .ok (.getfield 30, 3) := by decide +kernel
theorem dX12_move_104 : decode cX12_move 104 = .ok (.iload 4, 2) := by decide +kernel
theorem dX12_move_106 : decode cX12_move 106 = .ok (.aload_n 0, 1) := by decide +kernel
theorem dX12_move_107 : decode cX12_move 107 = .ok (.iload 4, 2) := by decide +kernel
theorem dX12_move_109 : decode cX12_move 109 = .ok (.iconst 2, 1) := by decide +kernel
theorem dX12_move_110 : decode cX12_move 110 = .ok (.invokevirtual 98, 3) := by decide +kernel
theorem dX12_move_113 : decode cX12_move 113 = .ok (.iastore, 1) := by decide +kernel
theorem dX12_move_114 : decode cX12_move 114 = .ok (.iinc 4 1, 3) := by decide +kernel
theorem dX12_move_117 : decode cX12_move 117 = .ok (.goto (-84), 3) := by decide +kernel
theorem dX12_move_120 : decode cX12_move 120 = .ok (.iload_n 2, 1) := by decide +kernel
theorem dX12_move_121 : decode cX12_move 121 = .ok (.ireturn, 1) := by decide +kernel
theorem dX12_layGets_0 : decode cX12_layGets 0 = .ok (.iconst 0, 1) := by decide +kernel
theorem dX12_layGets_1 : decode cX12_layGets 1 = .ok (.istore_n 2, 1) := by decide +kernel
theorem dX12_layGets_2 : decode cX12_layGets 2 = .ok (.iload_n 2, 1) := by decide +kernel
theorem dX12_layGets_3 : decode cX12_layGets 3 = .ok (.bipush 36, 2) := by decide +kernel
theorem dX12_layGets_5 : decode cX12_layGets 5 = .ok (.if_icmp .ge 69, 3) := by decide +kernel
theorem dX12_layGets_8 : decode cX12_layGets 8 = .ok (.iload_n 2, 1) := by decide +kernel
theorem dX12_layGets_9 : decode cX12_layGets 9 = .ok (.bipush 6, 2) := by decide +kernel
theorem dX12_layGets_11 : decode cX12_layGets 11 = .ok (.idiv, 1) := by decide +kernel
theorem dX12_layGets_12 : decode cX12_layGets 12 = .ok (.iload_n 2, 1) := by decide +kernel
theorem dX12_layGets_13 : decode cX12_layGets 13 = .ok (.bipush 6, 2) := by decide +kernel
theorem dX12_layGets_15 : decode cX12_layGets 15 = .ok (.irem, 1) := by decide +kernel
theorem dX12_layGets_16 : decode cX12_layGets 16 = .ok (.isub, 1) := by decide +kernel
theorem dX12_layGets_17 : decode cX12_layGets 17 = .ok (.istore_n 3, 1) := by decide +kernel
theorem dX12_layGets_18 : decode cX12_layGets 18 = .ok (.aload_n 0, 1) := by decide +kernel
theorem dX12_layGets_19 : decode cX12_layGets 19 = .ok (.iload_n 1, 1) := by decide +kernel
theorem dX12_layGets_20 : decode cX12_layGets 20 = .ok (.iload_n 2, 1) := by decide +kernel
theorem dX12_layGets_21 : decode cX12_layGets 21 = .ok (.bipush 6, 2) := by decide +kernel
theorem dX12_layGets_23 : decode cX12_layGets 23 = .ok (.idiv, 1) := by decide +kernel
theorem dX12_layGets_24 : decode cX12_layGets 24 = .ok (.iadd, 1) := by decide +kernel
theorem dX12_layGets_25 : decode cX12_layGets 25 = .ok (.invokevirtual 165, 3) := by decide +kernel
theorem dX12_layGets_28 : decode cX12_layGets 28 = .ok (.istore 4, 2) := by decide +kernel
theorem dX12_layGets_30 : decode cX12_layGets 30 = .ok (.aload_n 0, 1) := by decide +kernel
theorem dX12_layGets_31 : decode cX12_layGets 31 = .ok (.getfield 39, 3) := by decide +kernel
theorem dX12_layGets_34 : decode cX12_layGets 34 = .ok (.iload_n 2, 1) := by decide +kernel
theorem dX12_layGets_35 : decode cX12_layGets 35 = .ok (.iload 4, 2) := by decide +kernel
theorem dX12_layGets_37 : decode cX12_layGets 37 = .ok (.bipush 61, 2) := by decide +kernel
theorem dX12_layGets_39 : decode cX12_layGets 39 = .ok (.if_icmp .ne 7, 3) := by decide +kernel
theorem dX12_layGets_42 : decode cX12_layGets 42 = .ok (.iconst 0, 1) := by decide +kernel
theorem dX12_layGets_43 : decode cX12_layGets 43 = .ok (.goto 24, 3) := by decide +kernel
theorem dX12_layGets_46 : decode cX12_layGets 46 = .ok (.bipush 100, 2) := by decide +kernel
theorem dX12_layGets_48 : decode cX12_layGets 48 = .ok (.iload 4, 2) := by decide +kernel
theorem dX12_layGets_50 : decode cX12_layGets 50 = .ok (.isub, 1) := by decide +kernel
theorem dX12_layGets_51 : decode cX12_layGets 51 = .ok (.iload_n 3, 1) := by decide +kernel
theorem dX12_layGets_52 : decode cX12_layGets 52 = .ok (.iconst 1, 1) := by decide +kernel
theorem dX12_layGets_53 : decode cX12_layGets 53 = .ok (.if_icmp .eq 8, 3) := by decide +kernel
theorem dX12_layGets_56 : decode cX12_layGets 56 = .ok (.iload_n 3, 1) := by decide +kernel
theorem dX12_layGets_57 : decode cX12_layGets 57 = .ok (.iconst 2, 1) := by decide +kernel
theorem dX12_layGets_58 : decode cX12_layGets 58 = .ok (.if_icmp .ne 7, 3) := by decide +kernel
theorem dX12_layGets_61 : decode cX12_layGets 61 = .ok (.iconst 4, 1) := by decide +kernel
theorem dX12_layGets_62 : decode cX12_layGets 62 = .ok (.goto 4, 3) := by decide +kernel
theorem dX12_layGets_65 : decode cX12_layGets 65 = .ok (.iconst 0, 1) := by decide +kernel
theorem dX12_layGets_66 : decode cX12_layGets 66 = .ok (.isub, 1) := by decide +kernel
theorem dX12_layGets_67 : decode cX12_layGets 67 = .ok (.iastore, 1) := by decide +kernel
theorem dX12_layGets_68 : decode cX12_layGets 68 = .ok (.iinc 2 1, 3) := by decide +kernel
theorem dX12_layGets_71 : decode cX12_layGets 71 = .ok (.goto (-69), 3) := by decide +kernel
theorem dX12_layGets_74 : decode cX12_layGets 74 = .ok (.return_, 1) := by decide +kernel
theorem dX12_rests_0 : decode cX12_rests 0 = .ok (.iconst 1, 1) := by decide +kernel
theorem dX12_rests_1 : decode cX12_rests 1 = .ok (.istore_n 3, 1) := by decide +kernel
theorem dX12_rests_2 : decode cX12_rests 2 = .ok (.iconst 0, 1) := by decide +kernel
theorem dX12_rests_3 : decode cX12_rests 3 = .ok (.istore 4, 2) := by decide +kernel
theorem dX12_rests_5 : decode cX12_rests 5 = .ok (.iload 4, 2) := by decide +kernel
theorem dX12_rests_7 : decode cX12_rests 7 = .ok (.bipush 6, 2) := by decide +kernel
theorem dX12_rests_9 : decode cX12_rests 9 = .ok (.if_icmp .ge 71, 3) := by decide +kernel
theorem dX12_rests_12 : decode cX12_rests 12 = .ok (.iload_n 3, 1) := by decide +kernel
theorem dX12_rests_13 : decode cX12_rests 13 = .ok (.ifCond .eq 59, 3) := by decide +kernel
theorem dX12_rests_16 : decode cX12_rests 16 = .ok (.aload_n 0, 1) := by decide +kernel
theorem dX12_rests_17 : decode cX12_rests 17 = .ok (.getfield 39, 3) := by decide +kernel
theorem dX12_rests_20 : decode cX12_rests 20 = .ok (.bipush 6, 2) := by decide +kernel
theorem dX12_rests_22 : decode cX12_rests 22 = .ok (.iload_n 1, 1) := by decide +kernel
theorem dX12_rests_23 : decode cX12_rests 23 = .ok (.imul, 1) := by decide +kernel
theorem dX12_rests_24 : decode cX12_rests 24 = .ok (.iload_n 2, 1) := by decide +kernel
theorem dX12_rests_25 : decode cX12_rests 25 = .ok (.iadd, 1) := by decide +kernel
theorem dX12_rests_26 : decode cX12_rests 26 = .ok (.iaload, 1) := by decide +kernel
theorem dX12_rests_27 : decode cX12_rests 27 = .ok (.aload_n 0, 1) := by decide +kernel
theorem dX12_rests_28 : decode cX12_rests 28 = .ok (.getfield 39, 3) := by decide +kernel
theorem dX12_rests_31 : decode cX12_rests 31 = .ok (.bipush 6, 2) := by decide +kernel
theorem dX12_rests_33 : decode cX12_rests 33 = .ok (.iload 4, 2) := by decide +kernel
theorem dX12_rests_35 : decode cX12_rests 35 = .ok (.imul, 1) := by decide +kernel
theorem dX12_rests_36 : decode cX12_rests 36 = .ok (.iload_n 2, 1) := by decide +kernel
theorem dX12_rests_37 : decode cX12_rests 37 = .ok (.iadd, 1) := by decide +kernel
theorem dX12_rests_38 : decode cX12_rests 38 = .ok (.iaload, 1) := by decide +kernel
theorem dX12_rests_39 : decode cX12_rests 39 = .ok (.if_icmp .lt 33, 3) := by decide +kernel
theorem dX12_rests_42 : decode cX12_rests 42 = .ok (.aload_n 0, 1) := by decide +kernel
theorem dX12_rests_43 : decode cX12_rests 43 = .ok (.getfield 39, 3) := by decide +kernel
theorem dX12_rests_46 : decode cX12_rests 46 = .ok (.bipush 6, 2) := by decide +kernel
theorem dX12_rests_48 : decode cX12_rests 48 = .ok (.iload_n 2, 1) := by decide +kernel
theorem dX12_rests_49 : decode cX12_rests 49 = .ok (.imul, 1) := by decide +kernel
theorem dX12_rests_50 : decode cX12_rests 50 = .ok (.iload_n 1, 1) := by decide +kernel
theorem dX12_rests_51 : decode cX12_rests 51 = .ok (.iadd, 1) := by decide +kernel
theorem dX12_rests_52 : decode cX12_rests 52 = .ok (.iaload, 1) := by decide +kernel
theorem dX12_rests_53 : decode cX12_rests 53 = .ok (.aload_n 0, 1) := by decide +kernel
theorem dX12_rests_54 : decode cX12_rests 54 = .ok (.getfield 39, 3) := by decide +kernel
theorem dX12_rests_57 : decode cX12_rests 57 = .ok (.bipush 6, 2) := by decide +kernel
theorem dX12_rests_59 : decode cX12_rests 59 = .ok (.iload 4, 2) := by decide +kernel
theorem dX12_rests_61 : decode cX12_rests 61 = .ok (.imul, 1) := by decide +kernel
theorem dX12_rests_62 : decode cX12_rests 62 = .ok (.iload_n 1, 1) := by decide +kernel
theorem dX12_rests_63 : decode cX12_rests 63 = .ok (.iadd, 1) := by decide +kernel
theorem dX12_rests_64 : decode cX12_rests 64 = .ok (.iaload, 1) := by decide +kernel
theorem dX12_rests_65 : decode cX12_rests 65 = .ok (.if_icmp .lt 7, 3) := by decide +kernel
theorem dX12_rests_68 : decode cX12_rests 68 = .ok (.iconst 1, 1) := by decide +kernel
theorem dX12_rests_69 : decode cX12_rests 69 = .ok (.goto 4, 3) := by decide +kernel
theorem dX12_rests_72 : decode cX12_rests 72 = .ok (.iconst 0, 1) := by decide +kernel
theorem dX12_rests_73 : decode cX12_rests 73 = .ok (.istore_n 3, 1) := by decide +kernel
theorem dX12_rests_74 : decode cX12_rests 74 = .ok (.iinc 4 1, 3) := by decide +kernel
theorem dX12_rests_77 : decode cX12_rests 77 = .ok (.goto (-72), 3) := by decide +kernel
theorem dX12_rests_80 : decode cX12_rests 80 = .ok (.iload_n 3, 1) := by decide +kernel
theorem dX12_rests_81 : decode cX12_rests 81 = .ok (.ireturn, 1) := by decide +kernel
theorem dX12_carters_0 : decode cX12_carters 0 = .ok (.iload_n 1, 1) := by decide +kernel
theorem dX12_carters_1 : decode cX12_carters 1 = .ok (.i2l, 1) := by decide +kernel
theorem dX12_carters_2 : decode cX12_carters 2 = .ok (.lconst 0, 1) := by decide +kernel
theorem dX12_carters_3 : decode cX12_carters 3 = .ok (.ldc2_w 187, 3) := by decide +kernel
theorem dX12_carters_6 : decode cX12_carters 6 = .ok (.invokestatic 65, 3) := by decide +kernel
theorem dX12_carters_9 : decode cX12_carters 9 = .ok (.ifCond .eq 13, 3) := by decide +kernel
theorem dX12_carters_12 : decode cX12_carters 12 = .ok (.iload_n 2, 1) := by decide +kernel
theorem dX12_carters_13 : decode cX12_carters 13 = .ok (.i2l, 1) := by decide +kernel
theorem dX12_carters_14 : decode cX12_carters 14 = .ok (.lconst 0, 1) := by decide +kernel
theorem dX12_carters_15 : decode cX12_carters 15 = .ok (.lconst 1, 1) := by decide +kernel
theorem dX12_carters_16 : decode cX12_carters 16 = .ok (.invokestatic 65, 3) := by decide +kernel
theorem dX12_carters_19 : decode cX12_carters 19 = .ok (.ifCond .ne 10, 3) := by decide +kernel
theorem dX12_carters_22 : decode cX12_carters 22 = .ok (.aload_n 0, 1) := by decide +kernel
theorem dX12_carters_23 : decode cX12_carters 23 = .ok (.bipush (-10), 2) := by decide +kernel
theorem dX12_carters_25 : decode cX12_carters 25 = .ok (.invokevirtual 75, 3) := by decide +kernel
theorem dX12_carters_28 : decode cX12_carters 28 = .ok (.ireturn, 1) := by decide +kernel
theorem dX12_carters_29 : decode cX12_carters 29 = .ok (.aload_n 0, 1) := by decide +kernel
theorem dX12_carters_30 : decode cX12_carters 30 = .ok (.aload_n 0, 1) := by decide +kernel
theorem dX12_carters_31 : decode cX12_carters 31 = .ok (.invokevirtual 152, 3) := by decide +kernel
theorem dX12_carters_34 : decode cX12_carters 34 = .ok (.invokevirtual 155, 3) := by decide +kernel
theorem dX12_carters_37 : decode cX12_carters 37 = .ok (.aload_n 0, 1) := by decide +kernel
theorem dX12_carters_38 : decode cX12_carters 38 = .ok (.iload_n 1, 1) := by decide +kernel
theorem dX12_carters_39 : decode cX12_carters 39 = .ok (.invokevirtual 189, 3) := by decide +kernel
theorem dX12_carters_42 : decode cX12_carters 42 = .ok (.iconst 0, 1) := by decide +kernel
theorem dX12_carters_43 : decode cX12_carters 43 = .ok (.istore_n 3, 1) := by decide +kernel
theorem dX12_carters_44 : decode cX12_carters 44 = .ok (.iconst (-1), 1) := by decide +kernel
theorem dX12_carters_45 : decode cX12_carters 45 = .ok (.istore 4, 2) := by decide +kernel
theorem dX12_carters_47 : decode cX12_carters 47 = .ok (.iconst 0, 1) := by decide +kernel
theorem dX12_carters_48 : decode cX12_carters 48 = .ok (.istore 5, 2) := by decide +kernel
theorem dX12_carters_50 : decode cX12_carters 50 = .ok (.iload 5, 2) := by decide +kernel
theorem dX12_carters_52 : decode cX12_carters 52 = .ok (.bipush 36, 2) := by decide +kernel
theorem dX12_carters_54 : decode cX12_carters 54 = .ok (.if_icmp .ge 54, 3) := by decide +kernel
theorem dX12_carters_57 : decode cX12_carters 57 = .ok (.aload_n 0, 1) := by decide +kernel
theorem dX12_carters_58 : decode cX12_carters 58 = .ok (.iload 5, 2) := by decide +kernel
theorem dX12_carters_60 : decode cX12_carters 60 = .ok (.bipush 6, 2) := by decide +kernel
theorem dX12_carters_62 : decode cX12_carters 62 = .ok (.idiv, 1) := by decide +kernel
theorem dX12_carters_63 : decode cX12_carters 63 = .ok (.iload 5, 2) := by decide +kernel
theorem dX12_carters_65 : decode cX12_carters 65 = .ok (.bipush 6, 2) := by decide +kernel
theorem dX12_carters_67 : decode cX12_carters 67 = .ok (.irem, 1) := by decide +kernel
theorem dX12_carters_68 : decode cX12_carters 68 = .ok (.invokevirtual 192, 3) := by decide +kernel
theorem dX12_carters_71 : decode cX12_carters 71 = .ok (.ifCond .eq 31, 3) := by decide +kernel
theorem dX12_carters_74 : decode cX12_carters 74 = .ok (.iload_n 3, 1) := by decide +kernel
theorem dX12_carters_75 : decode cX12_carters 75 = .ok (.ifCond .ne 20, 3) := by decide +kernel
theorem dX12_carters_78 : decode cX12_carters 78 = .ok (.iload 5, 2) := by decide +kernel
theorem dX12_carters_80 : decode cX12_carters 80 = .ok (.bipush 6, 2) := by decide +kernel
theorem dX12_carters_82 : decode cX12_carters 82 = .ok (.idiv, 1) := by decide +kernel
theorem dX12_carters_83 : decode cX12_carters 83 = .ok (.bipush 10, 2) := by decide +kernel
theorem dX12_carters_85 : decode cX12_carters 85 = .ok (.imul, 1) := by decide +kernel
theorem dX12_carters_86 : decode cX12_carters 86 = .ok (.iload 5, 2) := by decide +kernel
theorem dX12_carters_88 : decode cX12_carters 88 = .ok (.bipush 6, 2) := by decide +kernel
theorem dX12_carters_90 : decode cX12_carters 90 = .ok (.irem, 1) := by decide +kernel
theorem dX12_carters_91 : decode cX12_carters 91 = .ok (.iadd, 1) := by decide +kernel
theorem dX12_carters_92 : decode cX12_carters 92 = .ok (.goto 5, 3) := by decide +kernel
theorem dX12_carters_95 : decode cX12_carters 95 = .ok (.iload 4, 2) := by decide +kernel
theorem dX12_carters_97 : decode cX12_carters 97 = .ok (.istore 4, 2) := by decide +kernel
theorem dX12_carters_99 : decode cX12_carters 99 = .ok (.iinc 3 1, 3) := by decide +kernel
theorem dX12_carters_102 : decode cX12_carters 102 = .ok (.iinc 5 1, 3) := by decide +kernel
theorem dX12_carters_105 : decode cX12_carters 105 = .ok (.goto (-55), 3) := by decide +kernel
theorem dX12_carters_108 : decode cX12_carters 108 = .ok (.iload_n 2, 1) := by decide +kernel
theorem dX12_carters_109 : decode cX12_carters 109 = .ok (.ifCond .ne 7, 3) := by decide +kernel
theorem dX12_carters_112 : decode cX12_carters 112 = .ok (.iload_n 3, 1) := by decide +kernel
theorem dX12_carters_113 : decode cX12_carters 113 = .ok (.goto 5, 3) := by decide +kernel
theorem dX12_carters_116 : decode cX12_carters 116 = .ok (.iload 4, 2) := by decide +kernel
theorem dX12_carters_118 : decode cX12_carters 118 = .ok (.ireturn, 1) := by decide +kernel
theorem dX12_reading_0 : decode cX12_reading 0 = .ok (.iload_n 1, 1) := by decide +kernel
theorem dX12_reading_1 : decode cX12_reading 1 = .ok (.invokestatic 83, 3) := by decide +kernel
theorem dX12_reading_4 : decode cX12_reading 4 = .ok (.ifCond .eq 22, 3) := by decide +kernel
theorem dX12_reading_7 : decode cX12_reading 7 = .ok (.iload_n 2, 1) := by decide +kernel
theorem dX12_reading_8 : decode cX12_reading 8 = .ok (.invokestatic 149, 3) := by decide +kernel
theorem dX12_reading_11 : decode cX12_reading 11 = .ok (.ifCond .eq 15, 3) := by decide +kernel
theorem dX12_reading_14 : decode cX12_reading 14 = .ok (.iload_n 3, 1) := by decide +kernel
theorem dX12_reading_15 : decode cX12_reading 15 = .ok (.i2l, 1) := by decide +kernel
theorem dX12_reading_16 : decode cX12_reading 16 = .ok (.lconst 1, 1) := by decide +kernel
theorem dX12_reading_17 : decode cX12_reading 17 = .ok (.ldc2_w 81, 3) := by decide +kernel
theorem dX12_reading_20 : decode cX12_reading 20 = .ok (.invokestatic 65, 3) := by decide +kernel
theorem dX12_reading_23 : decode cX12_reading 23 = .ok (.ifCond .ne 10, 3) := by decide +kernel
theorem dX12_reading_26 : decode cX12_reading 26 = .ok (.aload_n 0, 1) := by decide +kernel
theorem dX12_reading_27 : decode cX12_reading 27 = .ok (.bipush (-2), 2) := by decide +kernel
theorem dX12_reading_29 : decode cX12_reading 29 = .ok (.invokevirtual 75, 3) := by decide +kernel
theorem dX12_reading_32 : decode cX12_reading 32 = .ok (.ireturn, 1) := by decide +kernel
theorem dX12_reading_33 : decode cX12_reading 33 = .ok (.aload_n 0, 1) := by decide +kernel
theorem dX12_reading_34 : decode cX12_reading 34 = .ok (.getfield 7, 3) := by decide +kernel
theorem dX12_reading_37 : decode cX12_reading 37 = .ok (.iconst 4, 1) := by decide +kernel
theorem dX12_reading_38 : decode cX12_reading 38 = .ok (.iaload, 1) := by decide +kernel
theorem dX12_reading_39 : decode cX12_reading 39 = .ok (.bipush 6, 2) := by decide +kernel
theorem dX12_reading_41 : decode cX12_reading 41 = .ok (.if_icmp .ne 8, 3) := by decide +kernel
theorem dX12_reading_44 : decode cX12_reading 44 = .ok (.aload_n 0, 1) := by decide +kernel
theorem dX12_reading_45 : decode cX12_reading 45 = .ok (.invokevirtual 91, 3) := by decide +kernel
theorem dX12_reading_48 : decode cX12_reading 48 = .ok (.ireturn, 1) := by decide +kernel
theorem dX12_reading_49 : decode cX12_reading 49 = .ok (.bipush 56, 2) := by decide +kernel
theorem dX12_reading_51 : decode cX12_reading 51 = .ok (.iconst 3, 1) := by decide +kernel
theorem dX12_reading_52 : decode cX12_reading 52 = .ok (.aload_n 0, 1) := by decide +kernel
theorem dX12_reading_53 : decode cX12_reading 53 = .ok (.getfield 7, 3) := by decide +kernel
theorem dX12_reading_56 : decode cX12_reading 56 = .ok (.iconst 4, 1) := by decide +kernel
theorem dX12_reading_57 : decode cX12_reading 57 = .ok (.iaload, 1) := by decide +kernel
theorem dX12_reading_58 : decode cX12_reading 58 = .ok (.imul, 1) := by decide +kernel
theorem dX12_reading_59 : decode cX12_reading 59 = .ok (.iadd, 1) := by decide +kernel
theorem dX12_reading_60 : decode cX12_reading 60 = .ok (.istore 4, 2) := by decide +kernel
theorem dX12_reading_62 : decode cX12_reading 62 = .ok (.aload_n 0, 1) := by decide +kernel
theorem dX12_reading_63 : decode cX12_reading 63 = .ok (.getfield 7, 3) := by decide +kernel
theorem dX12_reading_66 : decode cX12_reading 66 = .ok (.iload 4, 2) := by decide +kernel
theorem dX12_reading_68 : decode cX12_reading 68 = .ok (.iload_n 1, 1) := by decide +kernel
theorem dX12_reading_69 : decode cX12_reading 69 = .ok (.iastore, 1) := by decide +kernel
theorem dX12_reading_70 : decode cX12_reading 70 = .ok (.aload_n 0, 1) := by decide +kernel
theorem dX12_reading_71 : decode cX12_reading 71 = .ok (.getfield 7, 3) := by decide +kernel
theorem dX12_reading_74 : decode cX12_reading 74 = .ok (.iload 4, 2) := by decide +kernel
theorem dX12_reading_76 : decode cX12_reading 76 = .ok (.iconst 1, 1) := by decide +kernel
theorem dX12_reading_77 : decode cX12_reading 77 = .ok (.iadd, 1) := by decide +kernel
theorem dX12_reading_78 : decode cX12_reading 78 = .ok (.iload_n 2, 1) := by decide +kernel
theorem dX12_reading_79 : decode cX12_reading 79 = .ok (.iastore, 1) := by decide +kernel
theorem dX12_reading_80 : decode cX12_reading 80 = .ok (.aload_n 0, 1) := by decide +kernel
theorem dX12_reading_81 : decode cX12_reading 81 = .ok (.getfield 7, 3) := by decide +kernel
theorem dX12_reading_84 : decode cX12_reading 84 = .ok (.iload 4, 2) := by decide +kernel
theorem dX12_reading_86 : decode cX12_reading 86 = .ok (.iconst 2, 1) := by decide +kernel
theorem dX12_reading_87 : decode cX12_reading 87 = .ok (.iadd, 1) := by decide +kernel
theorem dX12_reading_88 : decode cX12_reading 88 = .ok (.iload_n 3, 1) := by decide +kernel
theorem dX12_reading_89 : decode cX12_reading 89 = .ok (.iastore, 1) := by decide +kernel
theorem dX12_reading_90 : decode cX12_reading 90 = .ok (.aload_n 0, 1) := by decide +kernel
theorem dX12_reading_91 : decode cX12_reading 91 = .ok (.getfield 7, 3) := by decide +kernel
theorem dX12_reading_94 : decode cX12_reading 94 = .ok (.iconst 4, 1) := by decide +kernel
theorem dX12_reading_95 : decode cX12_reading 95 = .ok (.dup2, 1) := by decide +kernel
theorem dX12_reading_96 : decode cX12_reading 96 = .ok (.iaload, 1) := by decide +kernel
theorem dX12_reading_97 : decode cX12_reading 97 = .ok (.iconst 1, 1) := by decide +kernel
theorem dX12_reading_98 : decode cX12_reading 98 = .ok (.iadd, 1) := by decide +kernel
theorem dX12_reading_99 : decode cX12_reading 99 = .ok (.iastore, 1) := by decide +kernel
theorem dX12_reading_100 : decode cX12_reading 100 = .ok (.aload_n 0, 1) := by decide +kernel
theorem dX12_reading_101 : decode cX12_reading 101 = .ok (.getfield 7, 3) := by decide +kernel
theorem dX12_reading_104 : decode cX12_reading 104 = .ok (.iconst 4, 1) := by decide +kernel
theorem dX12_reading_105 : decode cX12_reading 105 = .ok (.iaload, 1) := by decide +kernel
theorem dX12_reading_106 : decode cX12_reading 106 = .ok (.ireturn, 1) := by decide +kernel
theorem dX12_forget_0 : decode cX12_forget 0 = .ok (.aload_n 0, 1) := by decide +kernel
theorem dX12_forget_1 : decode cX12_forget 1 = .ok (.getfield 7, 3) := by decide +kernel
theorem dX12_forget_4 : decode cX12_forget 4 = .ok (.iconst 4, 1) := by decide +kernel
theorem dX12_forget_5 : decode cX12_forget 5 = .ok (.iaload, 1) := by decide +kernel
theorem dX12_forget_6 : decode cX12_forget 6 = .ok (.istore_n 1, 1) := by decide +kernel
theorem dX12_forget_7 : decode cX12_forget 7 = .ok (.aload_n 0, 1) := by decide +kernel
theorem dX12_forget_8 : decode cX12_forget 8 = .ok (.getfield 7, 3) := by decide +kernel
theorem dX12_forget_11 : decode cX12_forget 11 = .ok (.iconst 4, 1) := by decide +kernel
theorem dX12_forget_12 : decode cX12_forget 12 = .ok (.iconst 0, 1) := by decide +kernel
theorem dX12_forget_13 : decode cX12_forget 13 = .ok (.iastore, 1) := by decide +kernel
theorem dX12_forget_14 : decode cX12_forget 14 = .ok (.iload_n 1, 1) := by decide +kernel
theorem dX12_forget_15 : decode cX12_forget 15 = .ok (.ireturn, 1) := by decide +kernel
theorem dX12_areSo_0 : decode cX12_areSo 0 = .ok (.iconst 1, 1) := by decide +kernel
theorem dX12_areSo_1 : decode cX12_areSo 1 = .ok (.istore_n 1, 1) := by decide +kernel
theorem dX12_areSo_2 : decode cX12_areSo 2 = .ok (.iconst 0, 1) := by decide +kernel
theorem dX12_areSo_3 : decode cX12_areSo 3 = .ok (.istore_n 2, 1) := by decide +kernel
theorem dX12_areSo_4 : decode cX12_areSo 4 = .ok (.iload_n 2, 1) := by decide +kernel
theorem dX12_areSo_5 : decode cX12_areSo 5 = .ok (.aload_n 0, 1) := by decide +kernel
theorem dX12_areSo_6 : decode cX12_areSo 6 = .ok (.getfield 7, 3) := by decide +kernel
theorem dX12_areSo_9 : decode cX12_areSo 9 = .ok (.iconst 4, 1) := by decide +kernel
theorem dX12_areSo_10 : decode cX12_areSo 10 = .ok (.iaload, 1) := by decide +kernel
theorem dX12_areSo_11 : decode cX12_areSo 11 = .ok (.if_icmp .ge 55, 3) := by decide +kernel
theorem dX12_areSo_14 : decode cX12_areSo 14 = .ok (.iload_n 1, 1) := by decide +kernel
theorem dX12_areSo_15 : decode cX12_areSo 15 = .ok (.ifCond .eq 51, 3) := by decide +kernel
theorem dX12_areSo_18 : decode cX12_areSo 18 = .ok (.bipush 56, 2) := by decide +kernel
theorem dX12_areSo_20 : decode cX12_areSo 20 = .ok (.iconst 3, 1) := by decide +kernel
theorem dX12_areSo_21 : decode cX12_areSo 21 = .ok (.iload_n 2, 1) := by decide +kernel
theorem dX12_areSo_22 : decode cX12_areSo 22 = .ok (.imul, 1) := by decide +kernel
theorem dX12_areSo_23 : decode cX12_areSo 23 = .ok (.iadd, 1) := by decide +kernel
theorem dX12_areSo_24 : decode cX12_areSo 24 = .ok (.istore_n 3, 1) := by decide +kernel
theorem dX12_areSo_25 : decode cX12_areSo 25 = .ok (.aload_n 0, 1) := by decide +kernel
theorem dX12_areSo_26 : decode cX12_areSo 26 = .ok (.aload_n 0, 1) := by decide +kernel
theorem dX12_areSo_27 : decode cX12_areSo 27 = .ok (.getfield 7, 3) := by decide +kernel
theorem dX12_areSo_30 : decode cX12_areSo 30 = .ok (.iload_n 3, 1) := by decide +kernel
theorem dX12_areSo_31 : decode cX12_areSo 31 = .ok (.iaload, 1) := by decide +kernel
theorem dX12_areSo_32 : decode cX12_areSo 32 = .ok (.aload_n 0, 1) := by decide +kernel
theorem dX12_areSo_33 : decode cX12_areSo 33 = .ok (.getfield 7, 3) := by decide +kernel
theorem dX12_areSo_36 : decode cX12_areSo 36 = .ok (.iload_n 3, 1) := by decide +kernel
theorem dX12_areSo_37 : decode cX12_areSo 37 = .ok (.iconst 1, 1) := by decide +kernel
theorem dX12_areSo_38 : decode cX12_areSo 38 = .ok (.iadd, 1) := by decide +kernel
theorem dX12_areSo_39 : decode cX12_areSo 39 = .ok (.iaload, 1) := by decide +kernel
theorem dX12_areSo_40 : decode cX12_areSo 40 = .ok (.invokevirtual 159, 3) := by decide +kernel
theorem dX12_areSo_43 : decode cX12_areSo 43 = .ok (.aload_n 0, 1) := by decide +kernel
theorem dX12_areSo_44 : decode cX12_areSo 44 = .ok (.getfield 7, 3) := by decide +kernel
theorem dX12_areSo_47 : decode cX12_areSo 47 = .ok (.iload_n 3, 1) := by decide +kernel
theorem dX12_areSo_48 : decode cX12_areSo 48 = .ok (.iconst 2, 1) := by decide +kernel
theorem dX12_areSo_49 : decode cX12_areSo 49 = .ok (.iadd, 1) := by decide +kernel
theorem dX12_areSo_50 : decode cX12_areSo 50 = .ok (.iaload, 1) := by decide +kernel
theorem dX12_areSo_51 : decode cX12_areSo 51 = .ok (.if_icmp .ne 7, 3) := by decide +kernel
theorem dX12_areSo_54 : decode cX12_areSo 54 = .ok (.iconst 1, 1) := by decide +kernel
theorem dX12_areSo_55 : decode cX12_areSo 55 = .ok (.goto 4, 3) := by decide +kernel
theorem dX12_areSo_58 : decode cX12_areSo 58 = .ok (.iconst 0, 1) := by decide +kernel
theorem dX12_areSo_59 : decode cX12_areSo 59 = .ok (.istore_n 1, 1) := by decide +kernel
theorem dX12_areSo_60 : decode cX12_areSo 60 = .ok (.iinc 2 1, 3) := by decide +kernel
theorem dX12_areSo_63 : decode cX12_areSo 63 = .ok (.goto (-59), 3) := by decide +kernel
theorem dX12_areSo_66 : decode cX12_areSo 66 = .ok (.iload_n 1, 1) := by decide +kernel
theorem dX12_areSo_67 : decode cX12_areSo 67 = .ok (.ireturn, 1) := by decide +kernel
theorem dX12_out_0 : decode cX12_out 0 = .ok (.iload_n 1, 1) := by decide +kernel
theorem dX12_out_1 : decode cX12_out 1 = .ok (.i2l, 1) := by decide +kernel
theorem dX12_out_2 : decode cX12_out 2 = .ok (.lconst 0, 1) := by decide +kernel
theorem dX12_out_3 : decode cX12_out 3 = .ok (.lconst 1, 1) := by decide +kernel
theorem dX12_out_4 : decode cX12_out 4 = .ok (.invokestatic 65, 3) := by decide +kernel
theorem dX12_out_7 : decode cX12_out 7 = .ok (.ifCond .ne 10, 3) := by decide +kernel
theorem dX12_out_10 : decode cX12_out 10 = .ok (.aload_n 0, 1) := by decide +kernel
theorem dX12_out_11 : decode cX12_out 11 = .ok (.bipush (-10), 2) := by decide +kernel
theorem dX12_out_13 : decode cX12_out 13 = .ok (.invokevirtual 75, 3) := by decide +kernel
theorem dX12_out_16 : decode cX12_out 16 = .ok (.ireturn, 1) := by decide +kernel
theorem dX12_out_17 : decode cX12_out 17 = .ok (.iconst 0, 1) := by decide +kernel
theorem dX12_out_18 : decode cX12_out 18 = .ok (.istore_n 2, 1) := by decide +kernel
theorem dX12_out_19 : decode cX12_out 19 = .ok (.aload_n 0, 1) := by decide +kernel
theorem dX12_out_20 : decode cX12_out 20 = .ok (.invokevirtual 152, 3) := by decide +kernel
theorem dX12_out_23 : decode cX12_out 23 = .ok (.istore_n 3, 1) := by decide +kernel
theorem dX12_out_24 : decode cX12_out 24 = .ok (.iconst 0, 1) := by decide +kernel
theorem dX12_out_25 : decode cX12_out 25 = .ok (.istore 4, 2) := by decide +kernel
theorem dX12_out_27 : decode cX12_out 27 = .ok (.iload 4, 2) := by decide +kernel
theorem dX12_out_29 : decode cX12_out 29 = .ok (.aload_n 0, 1) := by decide +kernel
theorem dX12_out_30 : decode cX12_out 30 = .ok (.invokevirtual 152, 3) := by decide +kernel
theorem dX12_out_33 : decode cX12_out 33 = .ok (.if_icmp .gt 48, 3) := by decide +kernel
theorem dX12_out_36 : decode cX12_out 36 = .ok (.aload_n 0, 1) := by decide +kernel
theorem dX12_out_37 : decode cX12_out 37 = .ok (.iload 4, 2) := by decide +kernel
theorem dX12_out_39 : decode cX12_out 39 = .ok (.invokevirtual 155, 3) := by decide +kernel
theorem dX12_out_42 : decode cX12_out 42 = .ok (.aload_n 0, 1) := by decide +kernel
theorem dX12_out_43 : decode cX12_out 43 = .ok (.invokevirtual 195, 3) := by decide +kernel
theorem dX12_out_46 : decode cX12_out 46 = .ok (.istore 5, 2) := by decide +kernel
theorem dX12_out_48 : decode cX12_out 48 = .ok (.iload_n 2, 1) := by decide +kernel
theorem dX12_out_49 : decode cX12_out 49 = .ok (.iload 5, 2) := by decide +kernel
theorem dX12_out_51 : decode cX12_out 51 = .ok (.ifCond .eq 7, 3) := by decide +kernel
theorem dX12_out_54 : decode cX12_out 54 = .ok (.iconst 1, 1) := by decide +kernel
theorem dX12_out_55 : decode cX12_out 55 = .ok (.goto 4, 3) := by decide +kernel
theorem dX12_out_58 : decode cX12_out 58 = .ok (.iconst 0, 1) := by decide +kernel
theorem dX12_out_59 : decode cX12_out 59 = .ok (.iadd, 1) := by decide +kernel
theorem dX12_out_60 : decode cX12_out 60 = .ok (.istore_n 2, 1) := by decide +kernel
theorem dX12_out_61 : decode cX12_out 61 = .ok (.iload_n 3, 1) := by decide +kernel
theorem dX12_out_62 : decode cX12_out 62 = .ok (.iload 5, 2) := by decide +kernel
theorem dX12_out_64 : decode cX12_out 64 = .ok (.ifCond .eq 8, 3) := by decide +kernel
theorem dX12_out_67 : decode cX12_out 67 = .ok (.iload 4, 2) := by decide +kernel
theorem dX12_out_69 : decode cX12_out 69 = .ok (.goto 4, 3) := by decide +kernel
theorem dX12_out_72 : decode cX12_out 72 = .ok (.iconst (-1), 1) := by decide +kernel
theorem dX12_out_73 : decode cX12_out 73 = .ok (.iand, 1) := by decide +kernel
theorem dX12_out_74 : decode cX12_out 74 = .ok (.istore_n 3, 1) := by decide +kernel
theorem dX12_out_75 : decode cX12_out 75 = .ok (.iinc 4 1, 3) := by decide +kernel
theorem dX12_out_78 : decode cX12_out 78 = .ok (.goto (-51), 3) := by decide +kernel
theorem dX12_out_81 : decode cX12_out 81 = .ok (.iload_n 1, 1) := by decide +kernel
theorem dX12_out_82 : decode cX12_out 82 = .ok (.ifCond .ne 7, 3) := by decide +kernel
theorem dX12_out_85 : decode cX12_out 85 = .ok (.iload_n 2, 1) := by decide +kernel
theorem dX12_out_86 : decode cX12_out 86 = .ok (.goto 12, 3) := by decide +kernel
theorem dX12_out_89 : decode cX12_out 89 = .ok (.iload_n 2, 1) := by decide +kernel
theorem dX12_out_90 : decode cX12_out 90 = .ok (.ifCond .ne 7, 3) := by decide +kernel
theorem dX12_out_93 : decode cX12_out 93 = .ok (.iconst (-1), 1) := by decide +kernel
theorem dX12_out_94 : decode cX12_out 94 = .ok (.goto 4, 3) := by decide +kernel
theorem dX12_out_97 : decode cX12_out 97 = .ok (.iload_n 3, 1) := by decide +kernel
theorem dX12_out_98 : decode cX12_out 98 = .ok (.ireturn, 1) := by decide +kernel
theorem dX12_mostLike_0 : decode cX12_mostLike 0 = .ok (.iconst 0, 1) := by decide +kernel
theorem dX12_mostLike_1 : decode cX12_mostLike 1 = .ok (.istore_n 3, 1) := by decide +kernel
theorem dX12_mostLike_2 : decode cX12_mostLike 2 = .ok (.iconst 0, 1) := by decide +kernel
theorem dX12_mostLike_3 : decode cX12_mostLike 3 = .ok (.istore 4, 2) := by decide +kernel
theorem dX12_mostLike_5 : decode cX12_mostLike 5 = .ok (.iload 4, 2) := by decide +kernel
theorem dX12_mostLike_7 : decode cX12_mostLike 7 = .ok (.bipush 10, 2) := by decide +kernel
theorem dX12_mostLike_9 : decode cX12_mostLike 9 = .ok (.if_icmp .ge 17, 3) := by decide +kernel
theorem dX12_mostLike_12 : decode cX12_mostLike 12 = .ok (.aload_n 0, 1) := by decide +kernel
theorem dX12_mostLike_13 : decode cX12_mostLike 13 = .ok (.getfield 45, 3) := by decide +kernel
theorem dX12_mostLike_16 : decode cX12_mostLike 16 = .ok (.iload 4, 2) := by decide +kernel
theorem dX12_mostLike_18 : decode cX12_mostLike 18 = .ok (.iconst 0, 1) := by decide +kernel
theorem dX12_mostLike_19 : decode cX12_mostLike 19 = .ok (.iastore, 1) := by decide +kernel
theorem dX12_mostLike_20 : decode cX12_mostLike 20 = .ok (.iinc 4 1, 3) := by decide +kernel
theorem dX12_mostLike_23 : decode cX12_mostLike 23 = .ok (.goto (-18), 3) := by decide +kernel
theorem dX12_mostLike_26 : decode cX12_mostLike 26 = .ok (.iconst 0, 1) := by decide +kernel
theorem dX12_mostLike_27 : decode cX12_mostLike 27 = .ok (.istore 4, 2) := by decide +kernel
theorem dX12_mostLike_29 : decode cX12_mostLike 29 = .ok (.iload 4, 2) := by decide +kernel
theorem dX12_mostLike_31 : decode cX12_mostLike 31 = .ok (.aload_n 0, 1) := by decide +kernel
theorem dX12_mostLike_32 : decode cX12_mostLike 32 = .ok (.invokevirtual 152, 3) := by decide +kernel
theorem dX12_mostLike_35 : decode cX12_mostLike 35 = .ok (.if_icmp .gt 56, 3) := by decide +kernel
theorem dX12_mostLike_38 : decode cX12_mostLike 38 = .ok (.aload_n 0, 1) := by decide +kernel
theorem dX12_mostLike_39 : decode cX12_mostLike 39 = .ok (.getfield 42, 3) := by decide +kernel
theorem dX12_mostLike_42 : decode cX12_mostLike 42 = .ok (.iload 4, 2) := by decide +kernel
theorem dX12_mostLike_44 : decode cX12_mostLike 44 = .ok (.baload, 1) := by decide +kernel
theorem dX12_mostLike_45 : decode cX12_mostLike 45 = .ok (.ifCond .eq 40, 3) := by decide +kernel
theorem dX12_mostLike_48 : decode cX12_mostLike 48 = .ok (.aload_n 0, 1) := by decide +kernel
theorem dX12_mostLike_49 : decode cX12_mostLike 49 = .ok (.iload 4, 2) := by decide +kernel
theorem dX12_mostLike_51 : decode cX12_mostLike 51 = .ok (.invokevirtual 155, 3) := by decide +kernel
theorem dX12_mostLike_54 : decode cX12_mostLike 54 = .ok (.aload_n 0, 1) := by decide +kernel
theorem dX12_mostLike_55 : decode cX12_mostLike 55 = .ok (.iload_n 1, 1) := by decide +kernel
theorem dX12_mostLike_56 : decode cX12_mostLike 56 = .ok (.iload_n 2, 1) := by decide +kernel
theorem dX12_mostLike_57 : decode cX12_mostLike 57 = .ok (.invokevirtual 159, 3) := by decide +kernel
theorem dX12_mostLike_60 : decode cX12_mostLike 60 = .ok (.istore 5, 2) := by decide +kernel
theorem dX12_mostLike_62 : decode cX12_mostLike 62 = .ok (.aload_n 0, 1) := by decide +kernel
theorem dX12_mostLike_63 : decode cX12_mostLike 63 = .ok (.getfield 45, 3) := by decide +kernel
theorem dX12_mostLike_66 : decode cX12_mostLike 66 = .ok (.iload 5, 2) := by decide +kernel
theorem dX12_mostLike_68 : decode cX12_mostLike 68 = .ok (.dup2, 1) := by decide +kernel
theorem dX12_mostLike_69 : decode cX12_mostLike 69 = .ok (.iaload, 1) := by decide +kernel
theorem dX12_mostLike_70 : decode cX12_mostLike 70 = .ok (.iconst 1, 1) := by decide +kernel
theorem dX12_mostLike_71 : decode cX12_mostLike 71 = .ok (.iadd, 1) := by decide +kernel
theorem dX12_mostLike_72 : decode cX12_mostLike 72 = .ok (.iastore, 1) := by decide +kernel
theorem dX12_mostLike_73 : decode cX12_mostLike 73 = .ok (.iload_n 3, 1) := by decide +kernel
theorem dX12_mostLike_74 : decode cX12_mostLike 74 = .ok (.aload_n 0, 1) := by decide +kernel
theorem dX12_mostLike_75 : decode cX12_mostLike 75 = .ok (.getfield 45, 3) := by decide +kernel
theorem dX12_mostLike_78 : decode cX12_mostLike 78 = .ok (.iload 5, 2) := by decide +kernel
theorem dX12_mostLike_80 : decode cX12_mostLike 80 = .ok (.iaload, 1) := by decide +kernel
theorem dX12_mostLike_81 : decode cX12_mostLike 81 = .ok (.invokestatic 122, 3) := by decide +kernel
theorem dX12_mostLike_84 : decode cX12_mostLike 84 = .ok (.istore_n 3, 1) := by decide +kernel
theorem dX12_mostLike_85 : decode cX12_mostLike 85 = .ok (.iinc 4 1, 3) := by decide +kernel
theorem dX12_mostLike_88 : decode cX12_mostLike 88 = .ok (.goto (-59), 3) := by decide +kernel
theorem dX12_mostLike_91 : decode cX12_mostLike 91 = .ok (.iload_n 3, 1) := by decide +kernel
theorem dX12_mostLike_92 : decode cX12_mostLike 92 = .ok (.ireturn, 1) := by decide +kernel
theorem dX12_look_0 : decode cX12_look 0 = .ok (.iload_n 1, 1) := by decide +kernel
theorem dX12_look_1 : decode cX12_look 1 = .ok (.invokestatic 149, 3) := by decide +kernel
theorem dX12_look_4 : decode cX12_look 4 = .ok (.ifCond .ne 10, 3) := by decide +kernel
theorem dX12_look_7 : decode cX12_look 7 = .ok (.aload_n 0, 1) := by decide +kernel
theorem dX12_look_8 : decode cX12_look 8 = .ok (.bipush (-2), 2) := by decide +kernel
theorem dX12_look_10 : decode cX12_look 10 = .ok (.invokevirtual 75, 3) := by decide +kernel
theorem dX12_look_13 : decode cX12_look 13 = .ok (.ireturn, 1) := by decide +kernel
theorem dX12_look_14 : decode cX12_look 14 = .ok (.iconst 0, 1) := by decide +kernel
theorem dX12_look_15 : decode cX12_look 15 = .ok (.istore_n 2, 1) := by decide +kernel
theorem dX12_look_16 : decode cX12_look 16 = .ok (.iconst 0, 1) := by decide +kernel
theorem dX12_look_17 : decode cX12_look 17 = .ok (.istore_n 3, 1) := by decide +kernel
theorem dX12_look_18 : decode cX12_look 18 = .ok (.iload_n 3, 1) := by decide +kernel
theorem dX12_look_19 : decode cX12_look 19 = .ok (.aload_n 0, 1) := by decide +kernel
theorem dX12_look_20 : decode cX12_look 20 = .ok (.invokevirtual 152, 3) := by decide +kernel
theorem dX12_look_23 : decode cX12_look 23 = .ok (.if_icmp .gt 41, 3) := by decide +kernel
theorem dX12_look_26 : decode cX12_look 26 = .ok (.aload_n 0, 1) := by decide +kernel
theorem dX12_look_27 : decode cX12_look 27 = .ok (.iload_n 3, 1) := by decide +kernel
theorem dX12_look_28 : decode cX12_look 28 = .ok (.invokevirtual 155, 3) := by decide +kernel
theorem dX12_look_31 : decode cX12_look 31 = .ok (.aload_n 0, 1) := by decide +kernel
theorem dX12_look_32 : decode cX12_look 32 = .ok (.getfield 42, 3) := by decide +kernel
theorem dX12_look_35 : decode cX12_look 35 = .ok (.iload_n 3, 1) := by decide +kernel
theorem dX12_look_36 : decode cX12_look 36 = .ok (.aload_n 0, 1) := by decide +kernel
theorem dX12_look_37 : decode cX12_look 37 = .ok (.invokevirtual 195, 3) := by decide +kernel
theorem dX12_look_40 : decode cX12_look 40 = .ok (.bastore, 1) := by decide +kernel
theorem dX12_look_41 : decode cX12_look 41 = .ok (.iload_n 2, 1) := by decide +kernel
theorem dX12_look_42 : decode cX12_look 42 = .ok (.aload_n 0, 1) := by decide +kernel
theorem dX12_look_43 : decode cX12_look 43 = .ok (.getfield 42, 3) := by decide +kernel
theorem dX12_look_46 : decode cX12_look 46 = .ok (.iload_n 3, 1) := by decide +kernel
theorem dX12_look_47 : decode cX12_look 47 = .ok (.baload, 1) := by decide +kernel
theorem dX12_look_48 : decode cX12_look 48 = .ok (.ifCond .eq 7, 3) := by decide +kernel
theorem dX12_look_51 : decode cX12_look 51 = .ok (.iconst 1, 1) := by decide +kernel
theorem dX12_look_52 : decode cX12_look 52 = .ok (.goto 4, 3) := by decide +kernel
theorem dX12_look_55 : decode cX12_look 55 = .ok (.iconst 0, 1) := by decide +kernel
theorem dX12_look_56 : decode cX12_look 56 = .ok (.iadd, 1) := by decide +kernel
theorem dX12_look_57 : decode cX12_look 57 = .ok (.istore_n 2, 1) := by decide +kernel
theorem dX12_look_58 : decode cX12_look 58 = .ok (.iinc 3 1, 3) := by decide +kernel
theorem dX12_look_61 : decode cX12_look 61 = .ok (.goto (-43), 3) := by decide +kernel
theorem dX12_look_64 : decode cX12_look 64 = .ok (.iconst (-1), 1) := by decide +kernel
theorem dX12_look_65 : decode cX12_look 65 = .ok (.istore_n 3, 1) := by decide +kernel
theorem dX12_look_66 : decode cX12_look 66 = .ok (.ldc 139, 2) := by decide +kernel
theorem dX12_look_68 : decode cX12_look 68 = .ok (.istore 4, 2) := by decide +kernel
theorem dX12_look_70 : decode cX12_look 70 = .ok (.iconst 0, 1) := by decide +kernel
theorem dX12_look_71 : decode cX12_look 71 = .ok (.istore 5, 2) := by decide +kernel
theorem dX12_look_73 : decode cX12_look 73 = .ok (.iload 5, 2) := by decide +kernel
theorem dX12_look_75 : decode cX12_look 75 = .ok (.bipush 47, 2) := by decide +kernel
theorem dX12_look_77 : decode cX12_look 77 = .ok (.if_icmp .gt 45, 3) := by decide +kernel
theorem dX12_look_80 : decode cX12_look 80 = .ok (.iload_n 2, 1) := by decide +kernel
theorem dX12_look_81 : decode cX12_look 81 = .ok (.ifCond .le 41, 3) := by decide +kernel
theorem dX12_look_84 : decode cX12_look 84 = .ok (.aload_n 0, 1) := by decide +kernel
theorem dX12_look_85 : decode cX12_look 85 = .ok (.iload 5, 2) := by decide +kernel
theorem dX12_look_87 : decode cX12_look 87 = .ok (.iload_n 1, 1) := by decide +kernel
theorem dX12_look_88 : decode cX12_look 88 = .ok (.invokevirtual 199, 3) := by decide +kernel
theorem dX12_look_91 : decode cX12_look 91 = .ok (.istore 6, 2) := by decide +kernel
theorem dX12_look_93 : decode cX12_look 93 = .ok (.iload 6, 2) := by decide +kernel
theorem dX12_look_95 : decode cX12_look 95 = .ok (.iload 4, 2) := by decide +kernel
theorem dX12_look_97 : decode cX12_look 97 = .ok (.if_icmp .ge 8, 3) := by decide +kernel
theorem dX12_look_100 : decode cX12_look 100 = .ok (.iload 5, 2) := by decide +kernel
theorem dX12_look_102 : decode cX12_look 102 = .ok (.goto 4, 3) := by decide +kernel
theorem dX12_look_105 : decode cX12_look 105 = .ok (.iload_n 3, 1) := by decide +kernel
theorem dX12_look_106 : decode cX12_look 106 = .ok (.istore_n 3, 1) := by decide +kernel
theorem dX12_look_107 : decode cX12_look 107 = .ok (.iload 4, 2) := by decide +kernel
theorem dX12_look_109 : decode cX12_look 109 = .ok (.iload 6, 2) := by decide +kernel
theorem dX12_look_111 : decode cX12_look 111 = .ok (.invokestatic 119, 3) := by decide +kernel
theorem dX12_look_114 : decode cX12_look 114 = .ok (.istore 4, 2) := by decide +kernel
theorem dX12_look_116 : decode cX12_look 116 = .ok (.iinc 5 1, 3) := by decide +kernel
theorem dX12_look_119 : decode cX12_look 119 = .ok (.goto (-46), 3) := by decide +kernel
theorem dX12_look_122 : decode cX12_look 122 = .ok (.iload_n 3, 1) := by decide +kernel
theorem dX12_look_123 : decode cX12_look 123 = .ok (.ireturn, 1) := by decide +kernel
theorem dX12_dolls_0 : decode cX12_dolls 0 = .ok (.iconst 0, 1) := by decide +kernel
theorem dX12_dolls_1 : decode cX12_dolls 1 = .ok (.istore_n 1, 1) := by decide +kernel
theorem dX12_dolls_2 : decode cX12_dolls 2 = .ok (.iconst 0, 1) := by decide +kernel
theorem dX12_dolls_3 : decode cX12_dolls 3 = .ok (.istore_n 2, 1) := by decide +kernel
theorem dX12_dolls_4 : decode cX12_dolls 4 = .ok (.iload_n 2, 1) := by decide +kernel
theorem dX12_dolls_5 : decode cX12_dolls 5 = .ok (.aload_n 0, 1) := by decide +kernel
theorem dX12_dolls_6 : decode cX12_dolls 6 = .ok (.invokevirtual 61, 3) := by decide +kernel
theorem dX12_dolls_9 : decode cX12_dolls 9 = .ok (.if_icmp .ge 41, 3) := by decide +kernel
theorem dX12_dolls_12 : decode cX12_dolls 12 = .ok (.aload_n 0, 1) := by decide +kernel
theorem dX12_dolls_13 : decode cX12_dolls 13 = .ok (.aload_n 0, 1) := by decide +kernel
theorem dX12_dolls_14 : decode cX12_dolls 14 = .ok (.invokevirtual 152, 3) := by decide +kernel
theorem dX12_dolls_17 : decode cX12_dolls 17 = .ok (.invokevirtual 155, 3) := by decide +kernel
theorem dX12_dolls_20 : decode cX12_dolls 20 = .ok (.aload_n 0, 1) := by decide +kernel
theorem dX12_dolls_21 : decode cX12_dolls 21 = .ok (.getfield 27, 3) := by decide +kernel
theorem dX12_dolls_24 : decode cX12_dolls 24 = .ok (.iload_n 2, 1) := by decide +kernel
theorem dX12_dolls_25 : decode cX12_dolls 25 = .ok (.iconst 5, 1) := by decide +kernel
theorem dX12_dolls_26 : decode cX12_dolls 26 = .ok (.iastore, 1) := by decide +kernel
theorem dX12_dolls_27 : decode cX12_dolls 27 = .ok (.iload_n 1, 1) := by decide +kernel
theorem dX12_dolls_28 : decode cX12_dolls 28 = .ok (.aload_n 0, 1) := by decide +kernel
theorem dX12_dolls_29 : decode cX12_dolls 29 = .ok (.invokevirtual 195, 3) := by decide +kernel
theorem dX12_dolls_32 : decode cX12_dolls 32 = .ok (.ifCond .eq 9, 3) := by decide +kernel
theorem dX12_dolls_35 : decode cX12_dolls 35 = .ok (.iconst 1, 1) := by decide +kernel
theorem dX12_dolls_36 : decode cX12_dolls 36 = .ok (.iload_n 2, 1) := by decide +kernel
theorem dX12_dolls_37 : decode cX12_dolls 37 = .ok (.ishl, 1) := by decide +kernel
theorem dX12_dolls_38 : decode cX12_dolls 38 = .ok (.goto 4, 3) := by decide +kernel
theorem dX12_dolls_41 : decode cX12_dolls 41 = .ok (.iconst 0, 1) := by decide +kernel
theorem dX12_dolls_42 : decode cX12_dolls 42 = .ok (.ior, 1) := by decide +kernel
theorem dX12_dolls_43 : decode cX12_dolls 43 = .ok (.istore_n 1, 1) := by decide +kernel
theorem dX12_dolls_44 : decode cX12_dolls 44 = .ok (.iinc 2 1, 3) := by decide +kernel
theorem dX12_dolls_47 : decode cX12_dolls 47 = .ok (.goto (-43), 3) := by decide +kernel
theorem dX12_dolls_50 : decode cX12_dolls 50 = .ok (.iload_n 1, 1) := by decide +kernel
theorem dX12_dolls_51 : decode cX12_dolls 51 = .ok (.ireturn, 1) := by decide +kernel
theorem dX12_fraction_0 : decode cX12_fraction 0 = .ok (.iload_n 1, 1) := by decide +kernel
theorem dX12_fraction_1 : decode cX12_fraction 1 = .ok (.istore_n 3, 1) := by decide +kernel
theorem dX12_fraction_2 : decode cX12_fraction 2 = .ok (.iload_n 2, 1) := by decide +kernel
theorem dX12_fraction_3 : decode cX12_fraction 3 = .ok (.istore 4, 2) := by decide +kernel
theorem dX12_fraction_5 : decode cX12_fraction 5 = .ok (.iload 4, 2) := by decide +kernel
theorem dX12_fraction_7 : decode cX12_fraction 7 = .ok (.ifCond .eq 19, 3) := by decide +kernel
theorem dX12_fraction_10 : decode cX12_fraction 10 = .ok (.iload_n 3, 1) := by decide +kernel
theorem dX12_fraction_11 : decode cX12_fraction 11 = .ok (.iload 4, 2) := by decide +kernel
theorem dX12_fraction_13 : decode cX12_fraction 13 = .ok (.irem, 1) := by decide +kernel
theorem dX12_fraction_14 : decode cX12_fraction 14 = .ok (.istore 5, 2) := by decide +kernel
theorem dX12_fraction_16 : decode cX12_fraction 16 = .ok (.iload 4, 2) := by decide +kernel
theorem dX12_fraction_18 : decode cX12_fraction 18 = .ok (.istore_n 3, 1) := by decide +kernel
theorem dX12_fraction_19 : decode cX12_fraction 19 = .ok (.iload 5, 2) := by decide +kernel
theorem dX12_fraction_21 : decode cX12_fraction 21 = .ok (.istore 4, 2) := by decide +kernel
theorem dX12_fraction_23 : decode cX12_fraction 23 = .ok (.goto (-18), 3) := by decide +kernel
theorem dX12_fraction_26 : decode cX12_fraction 26 = .ok (.aload_n 0, 1) := by decide +kernel
theorem dX12_fraction_27 : decode cX12_fraction 27 = .ok (.iload_n 1, 1) := by decide +kernel
theorem dX12_fraction_28 : decode cX12_fraction 28 = .ok (.iload_n 3, 1) := by decide +kernel
theorem dX12_fraction_29 : decode cX12_fraction 29 = .ok (.idiv, 1) := by decide +kernel
theorem dX12_fraction_30 : decode cX12_fraction 30 = .ok (.i2l, 1) := by decide +kernel
theorem dX12_fraction_31 : decode cX12_fraction 31 = .ok (.putfield 202, 3) := by decide +kernel
theorem dX12_fraction_34 : decode cX12_fraction 34 = .ok (.aload_n 0, 1) := by decide +kernel
theorem dX12_fraction_35 : decode cX12_fraction 35 = .ok (.iload_n 2, 1) := by decide +kernel
theorem dX12_fraction_36 : decode cX12_fraction 36 = .ok (.iload_n 3, 1) := by decide +kernel
theorem dX12_fraction_37 : decode cX12_fraction 37 = .ok (.idiv, 1) := by decide +kernel
theorem dX12_fraction_38 : decode cX12_fraction 38 = .ok (.i2l, 1) := by decide +kernel
theorem dX12_fraction_39 : decode cX12_fraction 39 = .ok (.putfield 23, 3) := by decide +kernel
theorem dX12_fraction_42 : decode cX12_fraction 42 = .ok (.return_, 1) := by decide +kernel
theorem dX12_days_0 : decode cX12_days 0 = .ok (.iload_n 1, 1) := by decide +kernel
theorem dX12_days_1 : decode cX12_days 1 = .ok (.i2l, 1) := by decide +kernel
theorem dX12_days_2 : decode cX12_days 2 = .ok (.lconst 0, 1) := by decide +kernel
theorem dX12_days_3 : decode cX12_days 3 = .ok (.ldc2_w 205, 3) := by decide +kernel
theorem dX12_days_6 : decode cX12_days 6 = .ok (.invokestatic 65, 3) := by decide +kernel
theorem dX12_days_9 : decode cX12_days 9 = .ok (.ifCond .eq 27, 3) := by decide +kernel
theorem dX12_days_12 : decode cX12_days 12 = .ok (.iload_n 2, 1) := by decide +kernel
theorem dX12_days_13 : decode cX12_days 13 = .ok (.i2l, 1) := by decide +kernel
theorem dX12_days_14 : decode cX12_days 14 = .ok (.lconst 0, 1) := by decide +kernel
theorem dX12_days_15 : decode cX12_days 15 = .ok (.ldc2_w 207, 3) := by decide +kernel
theorem dX12_days_18 : decode cX12_days 18 = .ok (.invokestatic 65, 3) := by decide +kernel
theorem dX12_days_21 : decode cX12_days 21 = .ok (.ifCond .eq 15, 3) := by decide +kernel
theorem dX12_days_24 : decode cX12_days 24 = .ok (.iload_n 3, 1) := by decide +kernel
theorem dX12_days_25 : decode cX12_days 25 = .ok (.i2l, 1) := by decide +kernel
theorem dX12_days_26 : decode cX12_days 26 = .ok (.lconst 0, 1) := by decide +kernel
theorem dX12_days_27 : decode cX12_days 27 = .ok (.ldc2_w 209, 3) := by decide +kernel
theorem dX12_days_30 : decode cX12_days 30 = .ok (.invokestatic 65, 3) := by decide +kernel
theorem dX12_days_33 : decode cX12_days 33 = .ok (.ifCond .ne 10, 3) := by decide +kernel
theorem dX12_days_36 : decode cX12_days 36 = .ok (.aload_n 0, 1) := by decide +kernel
theorem dX12_days_37 : decode cX12_days 37 = .ok (.bipush (-2), 2) := by decide +kernel
theorem dX12_days_39 : decode cX12_days 39 = .ok (.invokevirtual 75, 3) := by decide +kernel
theorem dX12_days_42 : decode cX12_days 42 = .ok (.ireturn, 1) := by decide +kernel
theorem dX12_days_43 : decode cX12_days 43 = .ok (.iload_n 2, 1) := by decide +kernel
theorem dX12_days_44 : decode cX12_days 44 = .ok (.ifCond .ne 8, 3) := by decide +kernel
theorem dX12_days_47 : decode cX12_days 47 = .ok (.aload_n 0, 1) := by decide +kernel
theorem dX12_days_48 : decode cX12_days 48 = .ok (.invokevirtual 112, 3) := by decide +kernel
theorem dX12_days_51 : decode cX12_days 51 = .ok (.ireturn, 1) := by decide +kernel
theorem dX12_days_52 : decode cX12_days 52 = .ok (.iload_n 1, 1) := by decide +kernel
theorem dX12_days_53 : decode cX12_days 53 = .ok (.i2l, 1) := by decide +kernel
theorem dX12_days_54 : decode cX12_days 54 = .ok (.lstore 4, 2) := by decide +kernel
theorem dX12_days_56 : decode cX12_days 56 = .ok (.iconst 0, 1) := by decide +kernel
theorem dX12_days_57 : decode cX12_days 57 = .ok (.istore 6, 2) := by decide +kernel
theorem dX12_days_59 : decode cX12_days 59 = .ok (.iconst 0, 1) := by decide +kernel
theorem dX12_days_60 : decode cX12_days 60 = .ok (.istore 7, 2) := by decide +kernel
theorem dX12_days_62 : decode cX12_days 62 = .ok (.iload 7, 2) := by decide +kernel
theorem dX12_days_64 : decode cX12_days 64 = .ok (.iload_n 2, 1) := by decide +kernel
theorem dX12_days_65 : decode cX12_days 65 = .ok (.if_icmp .ge 98, 3) := by decide +kernel
theorem dX12_days_68 : decode cX12_days 68 = .ok (.iconst 0, 1) := by decide +kernel
theorem dX12_days_69 : decode cX12_days 69 = .ok (.istore 8, 2) := by decide +kernel
theorem dX12_days_71 : decode cX12_days 71 = .ok (.iconst 0, 1) := by decide +kernel
theorem dX12_days_72 : decode cX12_days 72 = .ok (.istore 9, 2) := by decide +kernel
theorem dX12_days_74 : decode cX12_days 74 = .ok (.iload 9, 2) := by decide +kernel
theorem dX12_days_76 : decode cX12_days 76 = .ok (.aload_n 0, 1) := by decide +kernel
theorem dX12_days_77 : decode cX12_days 77 = .ok (.invokevirtual 61, 3) := by decide +kernel
theorem dX12_days_80 : decode cX12_days 80 = .ok (.if_icmp .ge 54, 3) := by decide +kernel
theorem dX12_days_83 : decode cX12_days 83 = .ok (.lload 4, 2) := by decide +kernel
theorem dX12_days_85 : decode cX12_days 85 = .ok (.ldc2_w 211, 3) := by decide +kernel
theorem dX12_days_88 : decode cX12_days 88 = .ok (.lmul, 1) := by decide +kernel
theorem dX12_days_89 : decode cX12_days 89 = .ok (.ldc2_w 213, 3) := by decide +kernel
theorem dX12_days_92 : decode cX12_days 92 = .ok (.ladd, 1) := by decide +kernel
theorem dX12_days_93 : decode cX12_days 93 = .ok (.ldc2_w 215, 3) := by decide +kernel
theorem dX12_days_96 : decode cX12_days 96 = .ok (.lrem, 1) := by decide +kernel
theorem dX12_days_97 : decode cX12_days 97 = .ok (.lstore 4, 2) := by decide +kernel
theorem dX12_days_99 : decode cX12_days 99 = .ok (.iload 8, 2) := by decide +kernel
theorem dX12_days_101 : decode cX12_days 101 = .ok (.lload 4, 2) := by decide +kernel
theorem dX12_days_103 : decode cX12_days 103 = .ok (.ldc2_w 217, 3) := by decide +kernel
theorem dX12_days_106 : decode cX12_days 106 = .ok (.ldiv, 1) := by decide +kernel
theorem dX12_days_107 : decode cX12_days 107 = .ok (.ldc2_w 209, 3) := by decide +kernel
theorem dX12_days_110 : decode cX12_days 110 = .ok (.lrem, 1) := by decide +kernel
theorem dX12_days_111 : decode cX12_days 111 = .ok (.iload_n 3, 1) := by decide +kernel
theorem dX12_days_112 : decode cX12_days 112 = .ok (.i2l, 1) := by decide +kernel
theorem dX12_days_113 : decode cX12_days 113 = .ok (.lcmp, 1) := by decide +kernel
theorem dX12_days_114 : decode cX12_days 114 = .ok (.ifCond .ge 10, 3) := by decide +kernel
theorem dX12_days_117 : decode cX12_days 117 = .ok (.iconst 1, 1) := by decide +kernel
theorem dX12_days_118 : decode cX12_days 118 = .ok (.iload 9, 2) := by decide +kernel
theorem dX12_days_120 : decode cX12_days 120 = .ok (.ishl, 1) := by decide +kernel
theorem dX12_days_121 : decode cX12_days 121 = .ok (.goto 4, 3) := by decide +kernel
theorem dX12_days_124 : decode cX12_days 124 = .ok (.iconst 0, 1) := by decide +kernel
theorem dX12_days_125 : decode cX12_days 125 = .ok (.ior, 1) := by decide +kernel
theorem dX12_days_126 : decode cX12_days 126 = .ok (.istore 8, 2) := by decide +kernel
theorem dX12_days_128 : decode cX12_days 128 = .ok (.iinc 9 1, 3) := by decide +kernel
theorem dX12_days_131 : decode cX12_days 131 = .ok (.goto (-57), 3) := by decide +kernel
theorem dX12_days_134 : decode cX12_days 134 = .ok (.aload_n 0, 1) := by decide +kernel
theorem dX12_days_135 : decode cX12_days 135 = .ok (.aload_n 0, 1) := by decide +kernel
theorem dX12_days_136 : decode cX12_days 136 = .ok (.invokevirtual 152, 3) := by decide +kernel
theorem dX12_days_139 : decode cX12_days 139 = .ok (.iload 8, 2) := by decide +kernel
theorem dX12_days_141 : decode cX12_days 141 = .ok (.iconst (-1), 1) := by decide +kernel
theorem dX12_days_142 : decode cX12_days 142 = .ok (.ixor, 1) := by decide +kernel
theorem dX12_days_143 : decode cX12_days 143 = .ok (.iand, 1) := by decide +kernel
theorem dX12_days_144 : decode cX12_days 144 = .ok (.invokevirtual 155, 3) := by decide +kernel
theorem dX12_days_147 : decode cX12_days 147 = .ok (.iload 6, 2) := by decide +kernel
theorem dX12_days_149 : decode cX12_days 149 = .ok (.aload_n 0, 1) := by decide +kernel
theorem dX12_days_150 : decode cX12_days 150 = .ok (.iconst 0, 1) := by decide +kernel
theorem dX12_days_151 : decode cX12_days 151 = .ok (.invokevirtual 165, 3) := by decide +kernel
theorem dX12_days_154 : decode cX12_days 154 = .ok (.iadd, 1) := by decide +kernel
theorem dX12_days_155 : decode cX12_days 155 = .ok (.istore 6, 2) := by decide +kernel
theorem dX12_days_157 : decode cX12_days 157 = .ok (.iinc 7 1, 3) := by decide +kernel
theorem dX12_days_160 : decode cX12_days 160 = .ok (.goto (-98), 3) := by decide +kernel
theorem dX12_days_163 : decode cX12_days 163 = .ok (.aload_n 0, 1) := by decide +kernel
theorem dX12_days_164 : decode cX12_days 164 = .ok (.iload 6, 2) := by decide +kernel
theorem dX12_days_166 : decode cX12_days 166 = .ok (.iload_n 2, 1) := by decide +kernel
theorem dX12_days_167 : decode cX12_days 167 = .ok (.invokevirtual 219, 3) := by decide +kernel
theorem dX12_days_170 : decode cX12_days 170 = .ok (.iconst 1, 1) := by decide +kernel
theorem dX12_days_171 : decode cX12_days 171 = .ok (.ireturn, 1) := by decide +kernel
theorem dX12_type_0 : decode cX12_type 0 = .ok (.iload_n 1, 1) := by decide +kernel
theorem dX12_type_1 : decode cX12_type 1 = .ok (.i2l, 1) := by decide +kernel
theorem dX12_type_2 : decode cX12_type 2 = .ok (.lconst 0, 1) := by decide +kernel
theorem dX12_type_3 : decode cX12_type 3 = .ok (.ldc2_w 223, 3) := by decide +kernel
theorem dX12_type_6 : decode cX12_type 6 = .ok (.invokestatic 65, 3) := by decide +kernel
theorem dX12_type_9 : decode cX12_type 9 = .ok (.ifCond .ne 10, 3) := by decide +kernel
theorem dX12_type_12 : decode cX12_type 12 = .ok (.aload_n 0, 1) := by decide +kernel
theorem dX12_type_13 : decode cX12_type 13 = .ok (.bipush (-2), 2) := by decide +kernel
theorem dX12_type_15 : decode cX12_type 15 = .ok (.invokevirtual 75, 3) := by decide +kernel
theorem dX12_type_18 : decode cX12_type 18 = .ok (.ireturn, 1) := by decide +kernel
theorem dX12_type_19 : decode cX12_type 19 = .ok (.aload_n 0, 1) := by decide +kernel
theorem dX12_type_20 : decode cX12_type 20 = .ok (.getfield 225, 3) := by decide +kernel
theorem dX12_type_23 : decode cX12_type 23 = .ok (.sipush 150, 3) := by decide +kernel
theorem dX12_type_26 : decode cX12_type 26 = .ok (.if_icmp .ne 8, 3) := by decide +kernel
theorem dX12_type_29 : decode cX12_type 29 = .ok (.aload_n 0, 1) := by decide +kernel
theorem dX12_type_30 : decode cX12_type 30 = .ok (.invokevirtual 91, 3) := by decide +kernel
theorem dX12_type_33 : decode cX12_type 33 = .ok (.ireturn, 1) := by decide +kernel
theorem dX12_type_34 : decode cX12_type 34 = .ok (.aload_n 0, 1) := by decide +kernel
theorem dX12_type_35 : decode cX12_type 35 = .ok (.getfield 48, 3) := by decide +kernel
theorem dX12_type_38 : decode cX12_type 38 = .ok (.aload_n 0, 1) := by decide +kernel
theorem dX12_type_39 : decode cX12_type 39 = .ok (.getfield 225, 3) := by decide +kernel
theorem dX12_type_42 : decode cX12_type 42 = .ok (.iload_n 1, 1) := by decide +kernel
theorem dX12_type_43 : decode cX12_type 43 = .ok (.iastore, 1) := by decide +kernel
theorem dX12_type_44 : decode cX12_type 44 = .ok (.aload_n 0, 1) := by decide +kernel
theorem dX12_type_45 : decode cX12_type 45 = .ok (.dup, 1) := by decide +kernel
theorem dX12_type_46 : decode cX12_type 46 = .ok (.getfield 225, 3) := by decide +kernel
theorem dX12_type_49 : decode cX12_type 49 = .ok (.iconst 1, 1) := by decide +kernel
theorem dX12_type_50 : decode cX12_type 50 = .ok (.iadd, 1) := by decide +kernel
theorem dX12_type_51 : decode cX12_type 51 = .ok (.putfield 225, 3) := by decide +kernel
theorem dX12_type_54 : decode cX12_type 54 = .ok (.aload_n 0, 1) := by decide +kernel
theorem dX12_type_55 : decode cX12_type 55 = .ok (.getfield 225, 3) := by decide +kernel
theorem dX12_type_58 : decode cX12_type 58 = .ok (.ireturn, 1) := by decide +kernel
theorem dX12_clear_0 : decode cX12_clear 0 = .ok (.aload_n 0, 1) := by decide +kernel
theorem dX12_clear_1 : decode cX12_clear 1 = .ok (.getfield 225, 3) := by decide +kernel
theorem dX12_clear_4 : decode cX12_clear 4 = .ok (.istore_n 1, 1) := by decide +kernel
theorem dX12_clear_5 : decode cX12_clear 5 = .ok (.aload_n 0, 1) := by decide +kernel
theorem dX12_clear_6 : decode cX12_clear 6 = .ok (.iconst 0, 1) := by decide +kernel
theorem dX12_clear_7 : decode cX12_clear 7 = .ok (.putfield 225, 3) := by decide +kernel
theorem dX12_clear_10 : decode cX12_clear 10 = .ok (.iload_n 1, 1) := by decide +kernel
theorem dX12_clear_11 : decode cX12_clear 11 = .ok (.ireturn, 1) := by decide +kernel
theorem dX12_isSmall_0 : decode cX12_isSmall 0 = .ok (.iload_n 0, 1) := by decide +kernel
theorem dX12_isSmall_1 : decode cX12_isSmall 1 = .ok (.i2l, 1) := by decide +kernel
theorem dX12_isSmall_2 : decode cX12_isSmall 2 = .ok (.ldc2_w 228, 3) := by decide +kernel
theorem dX12_isSmall_5 : decode cX12_isSmall 5 = .ok (.ldc2_w 230, 3) := by decide +kernel
theorem dX12_isSmall_8 : decode cX12_isSmall 8 = .ok (.invokestatic 65, 3) := by decide +kernel
theorem dX12_isSmall_11 : decode cX12_isSmall 11 = .ok (.ireturn, 1) := by decide +kernel
theorem dX12_isFigure_0 : decode cX12_isFigure 0 = .ok (.iload_n 0, 1) := by decide +kernel
theorem dX12_isFigure_1 : decode cX12_isFigure 1 = .ok (.i2l, 1) := by decide +kernel
theorem dX12_isFigure_2 : decode cX12_isFigure 2 = .ok (.ldc2_w 232, 3) := by decide +kernel
theorem dX12_isFigure_5 : decode cX12_isFigure 5 = .ok (.ldc2_w 234, 3) := by decide +kernel
theorem dX12_isFigure_8 : decode cX12_isFigure 8 = .ok (.invokestatic 65, 3) := by decide +kernel
theorem dX12_isFigure_11 : decode cX12_isFigure 11 = .ok (.ireturn, 1) := by decide +kernel
theorem dX12_lookAt_0 : decode cX12_lookAt 0 = .ok (.aload_n 0, 1) := by decide +kernel
theorem dX12_lookAt_1 : decode cX12_lookAt 1 = .ok (.iload_n 1, 1) := by decide +kernel
theorem dX12_lookAt_2 : decode cX12_lookAt 2 = .ok (.putfield 236, 3) := by decide +kernel
theorem dX12_lookAt_5 : decode cX12_lookAt 5 = .ok (.aload_n 0, 1) := by decide +kernel
theorem dX12_lookAt_6 : decode cX12_lookAt 6 = .ok (.getfield 236, 3) := by decide +kernel
theorem dX12_lookAt_9 : decode cX12_lookAt 9 = .ok (.aload_n 0, 1) := by decide +kernel
theorem dX12_lookAt_10 : decode cX12_lookAt 10 = .ok (.getfield 225, 3) := by decide +kernel
theorem dX12_lookAt_13 : decode cX12_lookAt 13 = .ok (.if_icmp .ge 30, 3) := by decide +kernel
theorem dX12_lookAt_16 : decode cX12_lookAt 16 = .ok (.aload_n 0, 1) := by decide +kernel
theorem dX12_lookAt_17 : decode cX12_lookAt 17 = .ok (.getfield 48, 3) := by decide +kernel
theorem dX12_lookAt_20 : decode cX12_lookAt 20 = .ok (.aload_n 0, 1) := by decide +kernel
theorem dX12_lookAt_21 : decode cX12_lookAt 21 = .ok (.getfield 236, 3) := by decide +kernel
theorem dX12_lookAt_24 : decode cX12_lookAt 24 = .ok (.iaload, 1) := by decide +kernel
theorem dX12_lookAt_25 : decode cX12_lookAt 25 = .ok (.bipush 32, 2) := by decide +kernel
theorem dX12_lookAt_27 : decode cX12_lookAt 27 = .ok (.if_icmp .ne 16, 3) := by decide +kernel
theorem dX12_lookAt_30 : decode cX12_lookAt 30 = .ok (.aload_n 0, 1) := by decide +kernel
theorem dX12_lookAt_31 : decode cX12_lookAt 31 = .ok (.dup, 1) := by decide +kernel
theorem dX12_lookAt_32 : decode cX12_lookAt 32 = .ok (.getfield 236, 3) := by decide +kernel
theorem dX12_lookAt_35 : decode cX12_lookAt 35 = .ok (.iconst 1, 1) := by decide +kernel
theorem dX12_lookAt_36 : decode cX12_lookAt 36 = .ok (.iadd, 1) := by decide +kernel
theorem dX12_lookAt_37 : decode cX12_lookAt 37 = .ok (.putfield 236, 3) := by decide +kernel
theorem dX12_lookAt_40 : decode cX12_lookAt 40 = .ok (.goto (-35), 3) := by decide +kernel
theorem dX12_lookAt_43 : decode cX12_lookAt 43 = .ok (.aload_n 0, 1) := by decide +kernel
theorem dX12_lookAt_44 : decode cX12_lookAt 44 = .ok (.iconst 0, 1) := by decide +kernel
theorem dX12_lookAt_45 : decode cX12_lookAt 45 = .ok (.putfield 239, 3) := by decide +kernel
theorem dX12_lookAt_48 : decode cX12_lookAt 48 = .ok (.aload_n 0, 1) := by decide +kernel
theorem dX12_lookAt_49 : decode cX12_lookAt 49 = .ok (.iconst 0, 1) := by decide +kernel
theorem dX12_lookAt_50 : decode cX12_lookAt 50 = .ok (.putfield 242, 3) := by decide +kernel
theorem dX12_lookAt_53 : decode cX12_lookAt 53 = .ok (.aload_n 0, 1) := by decide +kernel
theorem dX12_lookAt_54 : decode cX12_lookAt 54 = .ok (.iconst 0, 1) := by decide +kernel
theorem dX12_lookAt_55 : decode cX12_lookAt 55 = .ok (.putfield 245, 3) := by decide +kernel
theorem dX12_lookAt_58 : decode cX12_lookAt 58 = .ok (.aload_n 0, 1) := by decide +kernel
theorem dX12_lookAt_59 : decode cX12_lookAt 59 = .ok (.getfield 236, 3) := by decide +kernel
theorem dX12_lookAt_62 : decode cX12_lookAt 62 = .ok (.aload_n 0, 1) := by decide +kernel
theorem dX12_lookAt_63 : decode cX12_lookAt 63 = .ok (.getfield 225, 3) := by decide +kernel
theorem dX12_lookAt_66 : decode cX12_lookAt 66 = .ok (.if_icmp .ne 4, 3) := by decide +kernel
theorem dX12_lookAt_69 : decode cX12_lookAt 69 = .ok (.return_, 1) := by decide +kernel
theorem dX12_lookAt_70 : decode cX12_lookAt 70 = .ok (.aload_n 0, 1) := by decide +kernel
theorem dX12_lookAt_71 : decode cX12_lookAt 71 = .ok (.getfield 48, 3) := by decide +kernel
theorem dX12_lookAt_74 : decode cX12_lookAt 74 = .ok (.aload_n 0, 1) := by decide +kernel
theorem dX12_lookAt_75 : decode cX12_lookAt 75 = .ok (.getfield 236, 3) := by decide +kernel
theorem dX12_lookAt_78 : decode cX12_lookAt 78 = .ok (.iaload, 1) := by decide +kernel
theorem dX12_lookAt_79 : decode cX12_lookAt 79 = .ok (.istore_n 2, 1) := by decide +kernel
theorem dX12_lookAt_80 : decode cX12_lookAt 80 = .ok (.aload_n 0, 1) := by decide +kernel
theorem dX12_lookAt_81 : decode cX12_lookAt 81 = .ok (.iload_n 2, 1) := by decide +kernel
theorem dX12_lookAt_82 : decode cX12_lookAt 82 = .ok (.invokestatic 248, 3) := by decide +kernel
theorem dX12_lookAt_85 : decode cX12_lookAt 85 = .ok (.ifCond .eq 7, 3) := by decide +kernel
theorem dX12_lookAt_88 : decode cX12_lookAt 88 = .ok (.iconst 1, 1) := by decide +kernel
theorem dX12_lookAt_89 : decode cX12_lookAt 89 = .ok (.goto 25, 3) := by decide +kernel
theorem dX12_lookAt_92 : decode cX12_lookAt 92 = .ok (.iload_n 2, 1) := by decide +kernel
theorem dX12_lookAt_93 : decode cX12_lookAt 93 = .ok (.invokestatic 251, 3) := by decide +kernel
theorem dX12_lookAt_96 : decode cX12_lookAt 96 = .ok (.ifCond .eq 7, 3) := by decide +kernel
theorem dX12_lookAt_99 : decode cX12_lookAt 99 = .ok (.iconst 2, 1) := by decide +kernel
theorem dX12_lookAt_100 : decode cX12_lookAt 100 = .ok (.goto 14, 3) := by decide +kernel
theorem dX12_lookAt_103 : decode cX12_lookAt 103 = .ok (.iload_n 2, 1) := by decide +kernel
theorem dX12_lookAt_104 : decode cX12_lookAt 104 = .ok (.bipush 59, 2) := by decide +kernel
theorem dX12_lookAt_106 : decode cX12_lookAt 106 = .ok (.if_icmp .ne 7, 3) := by decide +kernel
theorem dX12_lookAt_109 : decode cX12_lookAt 109 = .ok (.iconst 3, 1) := by decide +kernel
theorem dX12_lookAt_110 : decode cX12_lookAt 110 = .ok (.goto 4, 3) := by decide +kernel
theorem dX12_lookAt_113 : decode cX12_lookAt 113 = .ok (.iconst 4, 1) := by decide +kernel
theorem dX12_lookAt_114 : decode cX12_lookAt 114 = .ok (.putfield 242, 3) := by decide +kernel
theorem dX12_lookAt_117 : decode cX12_lookAt 117 = .ok (.aload_n 0, 1) := by decide +kernel
theorem dX12_lookAt_118 : decode cX12_lookAt 118 = .ok (.iconst 1, 1) := by decide +kernel
theorem dX12_lookAt_119 : decode cX12_lookAt 119 = .ok (.putfield 239, 3) := by decide +kernel
theorem dX12_lookAt_122 : decode cX12_lookAt 122 = .ok (.aload_n 0, 1) := by decide +kernel
theorem dX12_lookAt_123 : decode cX12_lookAt 123 = .ok (.getfield 242, 3) := by decide +kernel
theorem dX12_lookAt_126 : decode cX12_lookAt 126 = .ok (.iconst 3, 1) := by decide +kernel
theorem dX12_lookAt_127 : decode cX12_lookAt 127 = .ok (.if_icmp .ge 7, 3) := by decide +kernel
theorem dX12_lookAt_130 : decode cX12_lookAt 130 = .ok (.iconst 1, 1) := by decide +kernel
theorem dX12_lookAt_131 : decode cX12_lookAt 131 = .ok (.goto 4, 3) := by decide +kernel
theorem dX12_lookAt_134 : decode cX12_lookAt 134 = .ok (.iconst 0, 1) := by decide +kernel
theorem dX12_lookAt_135 : decode cX12_lookAt 135 = .ok (.istore_n 3, 1) := by decide +kernel
theorem dX12_lookAt_136 : decode cX12_lookAt 136 = .ok (.iload_n 3, 1) := by decide +kernel
theorem dX12_lookAt_137 : decode cX12_lookAt 137 = .ok (.ifCond .eq 78, 3) := by decide +kernel
theorem dX12_lookAt_140 : decode cX12_lookAt 140 = .ok (.aload_n 0, 1) := by decide +kernel
theorem dX12_lookAt_141 : decode cX12_lookAt 141 = .ok (.getfield 236, 3) := by decide +kernel
theorem dX12_lookAt_144 : decode cX12_lookAt 144 = .ok (.aload_n 0, 1) := by decide +kernel
theorem dX12_lookAt_145 : decode cX12_lookAt 145 = .ok (.getfield 239, 3) := by decide +kernel
theorem dX12_lookAt_148 : decode cX12_lookAt 148 = .ok (.iadd, 1) := by decide +kernel
theorem dX12_lookAt_149 : decode cX12_lookAt 149 = .ok (.aload_n 0, 1) := by decide +kernel
theorem dX12_lookAt_150 : decode cX12_lookAt 150 = .ok (.getfield 225, 3) := by decide +kernel
theorem dX12_lookAt_153 : decode cX12_lookAt 153 = .ok (.if_icmp .ge 62, 3) := by decide +kernel
theorem dX12_lookAt_156 : decode cX12_lookAt 156 = .ok (.aload_n 0, 1) := by decide +kernel
theorem dX12_lookAt_157 : decode cX12_lookAt 157 = .ok (.getfield 48, 3) := by decide +kernel
theorem dX12_lookAt_160 : decode cX12_lookAt 160 = .ok (.aload_n 0, 1) := by decide +kernel
theorem dX12_lookAt_161 : decode cX12_lookAt 161 = .ok (.getfield 236, 3) := by decide +kernel
theorem dX12_lookAt_164 : decode cX12_lookAt 164 = .ok (.aload_n 0, 1) := by decide +kernel
theorem dX12_lookAt_165 : decode cX12_lookAt 165 = .ok (.getfield 239, 3) := by decide +kernel
theorem dX12_lookAt_168 : decode cX12_lookAt 168 = .ok (.iadd, 1) := by decide +kernel
theorem dX12_lookAt_169 : decode cX12_lookAt 169 = .ok (.iaload, 1) := by decide +kernel
theorem dX12_lookAt_170 : decode cX12_lookAt 170 = .ok (.istore 4, 2) := by decide +kernel
theorem dX12_lookAt_172 : decode cX12_lookAt 172 = .ok (.aload_n 0, 1) := by decide +kernel
theorem dX12_lookAt_173 : decode cX12_lookAt 173 = .ok (.getfield 242, 3) := by decide +kernel
theorem dX12_lookAt_176 : decode cX12_lookAt 176 = .ok (.iconst 1, 1) := by decide +kernel
theorem dX12_lookAt_177 : decode cX12_lookAt 177 = .ok (.if_icmp .ne 11, 3) := by decide +kernel
theorem dX12_lookAt_180 : decode cX12_lookAt 180 = .ok (.iload 4, 2) := by decide +kernel
theorem dX12_lookAt_182 : decode cX12_lookAt 182 = .ok (.invokestatic 248, 3) := by decide +kernel
theorem dX12_lookAt_185 : decode cX12_lookAt 185 = .ok (.goto 8, 3) := by decide +kernel
theorem dX12_lookAt_188 : decode cX12_lookAt 188 = .ok (.iload 4, 2) := by decide +kernel
theorem dX12_lookAt_190 : decode cX12_lookAt 190 = .ok (.invokestatic 251, 3) := by decide +kernel
theorem dX12_lookAt_193 : decode cX12_lookAt 193 = .ok (.istore_n 3, 1) := by decide +kernel
theorem dX12_lookAt_194 : decode cX12_lookAt 194 = .ok (.aload_n 0, 1) := by decide +kernel
theorem dX12_lookAt_195 : decode cX12_lookAt 195 = .ok (.dup, 1) := by decide +kernel
theorem dX12_lookAt_196 : decode cX12_lookAt 196 = .ok (.getfield 239, 3) := by decide +kernel
theorem dX12_lookAt_199 : decode cX12_lookAt 199 = .ok (.iload_n 3, 1) := by decide +kernel
theorem dX12_lookAt_200 : decode cX12_lookAt 200 = .ok (.ifCond .eq 7, 3) := by decide +kernel
theorem dX12_lookAt_203 : decode cX12_lookAt 203 = .ok (.iconst 1, 1) := by decide +kernel
theorem dX12_lookAt_204 : decode cX12_lookAt 204 = .ok (.goto 4, 3) := by decide +kernel
theorem dX12_lookAt_207 : decode cX12_lookAt 207 = .ok (.iconst 0, 1) := by decide +kernel
theorem dX12_lookAt_208 : decode cX12_lookAt 208 = .ok (.iadd, 1) := by decide +kernel
theorem dX12_lookAt_209 : decode cX12_lookAt 209 = .ok (.putfield 239, 3) := by decide +kernel
theorem dX12_lookAt_212 : decode cX12_lookAt 212 = .ok (.goto (-76), 3) := by decide +kernel
theorem dX12_lookAt_215 : decode cX12_lookAt 215 = .ok (.iconst 0, 1) := by decide +kernel
theorem dX12_lookAt_216 : decode cX12_lookAt 216 = .ok (.istore 4, 2) := by decide +kernel
theorem dX12_lookAt_218 : decode cX12_lookAt 218 = .ok (.iload 4, 2) := by decide +kernel
theorem dX12_lookAt_220 : decode cX12_lookAt 220 = .ok (.aload_n 0, 1) := by decide +kernel
theorem dX12_lookAt_221 : decode cX12_lookAt 221 = .ok (.getfield 239, 3) := by decide +kernel
theorem dX12_lookAt_224 : decode cX12_lookAt 224 = .ok (.if_icmp .ge 50, 3) := by decide +kernel
theorem dX12_lookAt_227 : decode cX12_lookAt 227 = .ok (.iload 4, 2) := by decide +kernel
theorem dX12_lookAt_229 : decode cX12_lookAt 229 = .ok (.iconst 2, 1) := by decide +kernel
theorem dX12_lookAt_230 : decode cX12_lookAt 230 = .ok (.if_icmp .ge 44, 3) := by decide +kernel
theorem dX12_lookAt_233 : decode cX12_lookAt 233 = .ok (.aload_n 0, 1) := by decide +kernel
theorem dX12_lookAt_234 : decode cX12_lookAt 234 = .ok (.getfield 242, 3) := by decide +kernel
theorem dX12_lookAt_237 : decode cX12_lookAt 237 = .ok (.iconst 2, 1) := by decide +kernel
theorem dX12_lookAt_238 : decode cX12_lookAt 238 = .ok (.if_icmp .ne 36, 3) := by decide +kernel
theorem dX12_lookAt_241 : decode cX12_lookAt 241 = .ok (.aload_n 0, 1) := by decide +kernel
theorem dX12_lookAt_242 : decode cX12_lookAt 242 = .ok (.bipush 10, 2) := by decide +kernel
theorem dX12_lookAt_244 : decode cX12_lookAt 244 = .ok (.aload_n 0, 1) := by decide +kernel
theorem dX12_lookAt_245 : decode cX12_lookAt 245 = .ok (.getfield 245, 3) := by decide +kernel
theorem dX12_lookAt_248 : decode cX12_lookAt 248 = .ok (.imul, 1) := by decide +kernel
theorem dX12_lookAt_249 : decode cX12_lookAt 249 = .ok (.aload_n 0, 1) := by decide +kernel
theorem dX12_lookAt_250 : decode cX12_lookAt 250 = .ok (.getfield 48, 3) := by decide +kernel
theorem dX12_lookAt_253 : decode cX12_lookAt 253 = .ok (.aload_n 0, 1) := by decide +kernel
theorem dX12_lookAt_254 : decode cX12_lookAt 254 = .ok (.getfield 236, 3) := by decide +kernel
theorem dX12_lookAt_257 : decode cX12_lookAt 257 = .ok (.iload 4, 2) := by decide +kernel
theorem dX12_lookAt_259 : decode cX12_lookAt 259 = .ok (.iadd, 1) := by decide +kernel
theorem dX12_lookAt_260 : decode cX12_lookAt 260 = .ok (.iaload, 1) := by decide +kernel
theorem dX12_lookAt_261 : decode cX12_lookAt 261 = .ok (.iadd, 1) := by decide +kernel
theorem dX12_lookAt_262 : decode cX12_lookAt 262 = .ok (.bipush 48, 2) := by decide +kernel
theorem dX12_lookAt_264 : decode cX12_lookAt 264 = .ok (.isub, 1) := by decide +kernel
theorem dX12_lookAt_265 : decode cX12_lookAt 265 = .ok (.putfield 245, 3) := by decide +kernel
theorem dX12_lookAt_268 : decode cX12_lookAt 268 = .ok (.iinc 4 1, 3) := by decide +kernel
theorem dX12_lookAt_271 : decode cX12_lookAt 271 = .ok (.goto (-53), 3) := by decide +kernel
theorem dX12_lookAt_274 : decode cX12_lookAt 274 = .ok (.aload_n 0, 1) := by decide +kernel
theorem dX12_lookAt_275 : decode cX12_lookAt 275 = .ok (.aload_n 0, 1) := by decide +kernel
theorem dX12_lookAt_276 : decode cX12_lookAt 276 = .ok (.getfield 242, 3) := by decide +kernel
theorem dX12_lookAt_279 : decode cX12_lookAt 279 = .ok (.iconst 2, 1) := by decide +kernel
theorem dX12_lookAt_280 : decode cX12_lookAt 280 = .ok (.if_icmp .ne 15, 3) := by decide +kernel
theorem dX12_lookAt_283 : decode cX12_lookAt 283 = .ok (.aload_n 0, 1) := by decide +kernel
theorem dX12_lookAt_284 : decode cX12_lookAt 284 = .ok (.getfield 239, 3) := by decide +kernel
theorem dX12_lookAt_287 : decode cX12_lookAt 287 = .ok (.iconst 2, 1) := by decide +kernel
theorem dX12_lookAt_288 : decode cX12_lookAt 288 = .ok (.if_icmp .le 7, 3) := by decide +kernel
theorem dX12_lookAt_291 : decode cX12_lookAt 291 = .ok (.iconst 4, 1) := by decide +kernel
theorem dX12_lookAt_292 : decode cX12_lookAt 292 = .ok (.goto 7, 3) := by decide +kernel
theorem dX12_lookAt_295 : decode cX12_lookAt 295 = .ok (.aload_n 0, 1) := by decide +kernel
theorem dX12_lookAt_296 : decode cX12_lookAt 296 = .ok (.getfield 242, 3) := by decide +kernel
theorem dX12_lookAt_299 : decode cX12_lookAt 299 = .ok (.putfield 242, 3) := by decide +kernel
theorem dX12_lookAt_302 : decode cX12_lookAt 302 = .ok (.return_, 1) := by decide +kernel
theorem dX12_goBehind_0 : decode cX12_goBehind 0 = .ok (.aload_n 0, 1) := by decide +kernel
theorem dX12_goBehind_1 : decode cX12_goBehind 1 = .ok (.aload_n 0, 1) := by decide +kernel
theorem dX12_goBehind_2 : decode cX12_goBehind 2 = .ok (.getfield 236, 3) := by decide +kernel
theorem dX12_goBehind_5 : decode cX12_goBehind 5 = .ok (.aload_n 0, 1) := by decide +kernel
theorem dX12_goBehind_6 : decode cX12_goBehind 6 = .ok (.getfield 239, 3) := by decide +kernel
theorem dX12_goBehind_9 : decode cX12_goBehind 9 = .ok (.iadd, 1) := by decide +kernel
theorem dX12_goBehind_10 : decode cX12_goBehind 10 = .ok (.invokevirtual 254, 3) := by decide +kernel
theorem dX12_goBehind_13 : decode cX12_goBehind 13 = .ok (.return_, 1) := by decide +kernel
theorem dX12_isCalled_0 : decode cX12_isCalled 0 = .ok (.aload_n 0, 1) := by decide +kernel
theorem dX12_isCalled_1 : decode cX12_isCalled 1 = .ok (.getfield 242, 3) := by decide +kernel
theorem dX12_isCalled_4 : decode cX12_isCalled 4 = .ok (.iconst 1, 1) := by decide +kernel
theorem dX12_isCalled_5 : decode cX12_isCalled 5 = .ok (.if_icmp .ne 15, 3) := by decide +kernel
theorem dX12_isCalled_8 : decode cX12_isCalled 8 = .ok (.aload_n 0, 1) := by decide +kernel
theorem dX12_isCalled_9 : decode cX12_isCalled 9 = .ok (.getfield 239, 3) := by decide +kernel
theorem dX12_isCalled_12 : decode cX12_isCalled 12 = .ok (.iload_n 1, 1) := by decide +kernel
theorem dX12_isCalled_13 : decode cX12_isCalled 13 = .ok (.if_icmp .ne 7, 3) := by decide +kernel
theorem dX12_isCalled_16 : decode cX12_isCalled 16 = .ok (.iconst 1, 1) := by decide +kernel
theorem dX12_isCalled_17 : decode cX12_isCalled 17 = .ok (.goto 4, 3) := by decide +kernel
theorem dX12_isCalled_20 : decode cX12_isCalled 20 = .ok (.iconst 0, 1) := by decide +kernel
theorem dX12_isCalled_21 : decode cX12_isCalled 21 = .ok (.istore 7, 2) := by decide +kernel
theorem dX12_isCalled_23 : decode cX12_isCalled 23 = .ok (.iconst 0, 1) := by decide +kernel
theorem dX12_isCalled_24 : decode cX12_isCalled 24 = .ok (.istore 8, 2) := by decide +kernel
theorem dX12_isCalled_26 : decode cX12_isCalled 26 = .ok (.iload 8, 2) := by decide +kernel
theorem dX12_isCalled_28 : decode cX12_isCalled 28 = .ok (.iload_n 1, 1) := by decide +kernel
theorem dX12_isCalled_29 : decode cX12_isCalled 29 = .ok (.if_icmp .ge 79, 3) := by decide +kernel
theorem dX12_isCalled_32 : decode cX12_isCalled 32 = .ok (.iload 7, 2) := by decide +kernel
theorem dX12_isCalled_34 : decode cX12_isCalled 34 = .ok (.ifCond .eq 74, 3) := by decide +kernel
theorem dX12_isCalled_37 : decode cX12_isCalled 37 = .ok (.aload_n 0, 1) := by decide +kernel
theorem dX12_isCalled_38 : decode cX12_isCalled 38 = .ok (.getfield 48, 3) := by decide +kernel
theorem dX12_isCalled_41 : decode cX12_isCalled 41 = .ok (.aload_n 0, 1) := by decide +kernel
theorem dX12_isCalled_42 : decode cX12_isCalled 42 = .ok (.getfield 236, 3) := by decide +kernel
theorem dX12_isCalled_45 : decode cX12_isCalled 45 = .ok (.iload 8, 2) := by decide +kernel
theorem dX12_isCalled_47 : decode cX12_isCalled 47 = .ok (.iadd, 1) := by decide +kernel
theorem dX12_isCalled_48 : decode cX12_isCalled 48 = .ok (.iaload, 1) := by decide +kernel
theorem dX12_isCalled_49 : decode cX12_isCalled 49 = .ok (.iload 8, 2) := by decide +kernel
theorem dX12_isCalled_51 : decode cX12_isCalled 51 = .ok (.ifCond .ne 7, 3) := by decide +kernel
theorem dX12_isCalled_54 : decode cX12_isCalled 54 = .ok (.iload_n 2, 1) := by decide +kernel
theorem dX12_isCalled_55 : decode cX12_isCalled 55 = .ok (.goto 37, 3) := by decide +kernel
theorem dX12_isCalled_58 : decode cX12_isCalled 58 = .ok (.iload 8, 2) := by decide +kernel
theorem dX12_isCalled_60 : decode cX12_isCalled 60 = .ok (.iconst 1, 1) := by decide +kernel
theorem dX12_isCalled_61 : decode cX12_isCalled 61 = .ok (.if_icmp .ne 7, 3) := by decide +kernel
theorem dX12_isCalled_64 : decode cX12_isCalled 64 = .ok (.iload_n 3, 1) := by decide +kernel
theorem dX12_isCalled_65 : decode cX12_isCalled 65 = .ok (.goto 27, 3) := by decide +kernel
theorem dX12_isCalled_68 : decode cX12_isCalled 68 = .ok (.iload 8, 2) := by decide +kernel
theorem dX12_isCalled_70 : decode cX12_isCalled 70 = .ok (.iconst 2, 1) := by decide +kernel
theorem dX12_isCalled_71 : decode cX12_isCalled 71 = .ok (.if_icmp .ne 8, 3) := by decide +kernel
theorem dX12_isCalled_74 : decode cX12_isCalled 74 = .ok (.iload 4, 2) := by decide +kernel
theorem dX12_isCalled_76 : decode cX12_isCalled 76 = .ok (.goto 16, 3) := by decide +kernel
theorem dX12_isCalled_79 : decode cX12_isCalled 79 = .ok (.iload 8, 2) := by decide +kernel
theorem dX12_isCalled_81 : decode cX12_isCalled 81 = .ok (.iconst 3, 1) := by decide +kernel
theorem dX12_isCalled_82 : decode cX12_isCalled 82 = .ok (.if_icmp .ne 8, 3) := by decide +kernel
theorem dX12_isCalled_85 : decode cX12_isCalled 85 = .ok (.iload 5, 2) := by decide +kernel
theorem dX12_isCalled_87 : decode cX12_isCalled 87 = .ok (.goto 5, 3) := by decide +kernel
theorem dX12_isCalled_90 : decode cX12_isCalled 90 = .ok (.iload 6, 2) := by decide +kernel
theorem dX12_isCalled_92 : decode cX12_isCalled 92 = .ok (.if_icmp .ne 7, 3) := by decide +kernel
theorem dX12_isCalled_95 : decode cX12_isCalled 95 = .ok (.iconst 1, 1) := by decide +kernel
theorem dX12_isCalled_96 : decode cX12_isCalled 96 = .ok (.goto 4, 3) := by decide +kernel
theorem dX12_isCalled_99 : decode cX12_isCalled 99 = .ok (.iconst 0, 1) := by decide +kernel
theorem dX12_isCalled_100 : decode cX12_isCalled 100 = .ok (.istore 7, 2) := by decide +kernel
theorem dX12_isCalled_102 : decode cX12_isCalled 102 = .ok (.iinc 8 1, 3) := by decide +kernel
theorem dX12_isCalled_105 : decode cX12_isCalled 105 = .ok (.goto (-79), 3) := by decide +kernel
theorem dX12_isCalled_108 : decode cX12_isCalled 108 = .ok (.iload 7, 2) := by decide +kernel
theorem dX12_isCalled_110 : decode cX12_isCalled 110 = .ok (.ireturn, 1) := by decide +kernel
theorem dX12_takes_0 : decode cX12_takes 0 = .ok (.aload_n 0, 1) := by decide +kernel
theorem dX12_takes_1 : decode cX12_takes 1 = .ok (.getfield 242, 3) := by decide +kernel
theorem dX12_takes_4 : decode cX12_takes 4 = .ok (.iconst 2, 1) := by decide +kernel
theorem dX12_takes_5 : decode cX12_takes 5 = .ok (.if_icmp .ne 18, 3) := by decide +kernel
theorem dX12_takes_8 : decode cX12_takes 8 = .ok (.aload_n 0, 1) := by decide +kernel
theorem dX12_takes_9 : decode cX12_takes 9 = .ok (.getfield 245, 3) := by decide +kernel
theorem dX12_takes_12 : decode cX12_takes 12 = .ok (.i2l, 1) := by decide +kernel
theorem dX12_takes_13 : decode cX12_takes 13 = .ok (.iload_n 2, 1) := by decide +kernel
theorem dX12_takes_14 : decode cX12_takes 14 = .ok (.i2l, 1) := by decide +kernel
theorem dX12_takes_15 : decode cX12_takes 15 = .ok (.iload_n 3, 1) := by decide +kernel
theorem dX12_takes_16 : decode cX12_takes 16 = .ok (.i2l, 1) := by decide +kernel
theorem dX12_takes_17 : decode cX12_takes 17 = .ok (.invokestatic 65, 3) := by decide +kernel
theorem dX12_takes_20 : decode cX12_takes 20 = .ok (.ifCond .ne 5, 3) := by decide +kernel
theorem dX12_takes_23 : decode cX12_takes 23 = .ok (.iconst 0, 1) := by decide +kernel
theorem dX12_takes_24 : decode cX12_takes 24 = .ok (.ireturn, 1) := by decide +kernel
theorem dX12_takes_25 : decode cX12_takes 25 = .ok (.aload_n 0, 1) := by decide +kernel
theorem dX12_takes_26 : decode cX12_takes 26 = .ok (.getfield 54, 3) := by decide +kernel
theorem dX12_takes_29 : decode cX12_takes 29 = .ok (.iload_n 1, 1) := by decide +kernel
theorem dX12_takes_30 : decode cX12_takes 30 = .ok (.aload_n 0, 1) := by decide +kernel
theorem dX12_takes_31 : decode cX12_takes 31 = .ok (.getfield 245, 3) := by decide +kernel
theorem dX12_takes_34 : decode cX12_takes 34 = .ok (.iastore, 1) := by decide +kernel
theorem dX12_takes_35 : decode cX12_takes 35 = .ok (.aload_n 0, 1) := by decide +kernel
theorem dX12_takes_36 : decode cX12_takes 36 = .ok (.invokevirtual 257, 3) := by decide +kernel
theorem dX12_takes_39 : decode cX12_takes 39 = .ok (.iconst 1, 1) := by decide +kernel
theorem dX12_takes_40 : decode cX12_takes 40 = .ok (.ireturn, 1) := by decide +kernel
theorem dX12_takesFirst_0 : decode cX12_takesFirst 0 = .ok (.aload_n 0, 1) := by decide +kernel
theorem dX12_takesFirst_1 : decode cX12_takesFirst 1 = .ok (.iconst 4, 1) := by decide +kernel
theorem dX12_takesFirst_2 : decode cX12_takesFirst 2 = .ok (.bipush 114, 2) := by decide +kernel
theorem dX12_takesFirst_4 : decode cX12_takesFirst 4 = .ok (.bipush 111, 2) := by decide +kernel
theorem dX12_takesFirst_6 : decode cX12_takesFirst 6 = .ok (.bipush 97, 2) := by decide +kernel
theorem dX12_takesFirst_8 : decode cX12_takesFirst 8 = .ok (.bipush 100, 2) := by decide +kernel
theorem dX12_takesFirst_10 : decode cX12_takesFirst 10 = .ok (.iconst 0, 1) := by decide +kernel
theorem dX12_takesFirst_11 : decode cX12_takesFirst 11 = .ok (.invokevirtual 260, 3) := by decide +kernel
theorem dX12_takesFirst_14 : decode cX12_takesFirst 14 = .ok (.ifCond .ne 5, 3) := by decide +kernel
theorem dX12_takesFirst_17 : decode cX12_takesFirst 17 = .ok (.iconst 0, 1) := by decide +kernel
theorem dX12_takesFirst_18 : decode cX12_takesFirst 18 = .ok (.ireturn, 1) := by decide +kernel
theorem dX12_takesFirst_19 : decode cX12_takesFirst 19 = .ok (.aload_n 0, 1) := by decide +kernel
theorem dX12_takesFirst_20 : decode cX12_takesFirst 20 = .ok (.invokevirtual 257, 3) := by decide +kernel
theorem dX12_takesFirst_23 : decode cX12_takesFirst 23 = .ok (.aload_n 0, 1) := by decide +kernel
theorem dX12_takesFirst_24 : decode cX12_takesFirst 24 = .ok (.iconst 0, 1) := by decide +kernel
theorem dX12_takesFirst_25 : decode cX12_takesFirst 25 = .ok (.iconst 0, 1) := by decide +kernel
theorem dX12_takesFirst_26 : decode cX12_takesFirst 26 = .ok (.bipush 47, 2) := by decide +kernel
theorem dX12_takesFirst_28 : decode cX12_takesFirst 28 = .ok (.invokevirtual 264, 3) := by decide +kernel
theorem dX12_takesFirst_31 : decode cX12_takesFirst 31 = .ok (.ifCond .eq 13, 3) := by decide +kernel
theorem dX12_takesFirst_34 : decode cX12_takesFirst 34 = .ok (.aload_n 0, 1) := by decide +kernel
theorem dX12_takesFirst_35 : decode cX12_takesFirst 35 = .ok (.iconst 1, 1) := by decide +kernel
theorem dX12_takesFirst_36 : decode cX12_takesFirst 36 = .ok (.iconst 0, 1) := by decide +kernel
theorem dX12_takesFirst_37 : decode cX12_takesFirst 37 = .ok (.iconst 2, 1) := by decide +kernel
theorem dX12_takesFirst_38 : decode cX12_takesFirst 38 = .ok (.invokevirtual 264, 3) := by decide +kernel
theorem dX12_takesFirst_41 : decode cX12_takesFirst 41 = .ok (.ifCond .ne 5, 3) := by decide +kernel
theorem dX12_takesFirst_44 : decode cX12_takesFirst 44 = .ok (.iconst 0, 1) := by decide +kernel
theorem dX12_takesFirst_45 : decode cX12_takesFirst 45 = .ok (.ireturn, 1) := by decide +kernel
theorem dX12_takesFirst_46 : decode cX12_takesFirst 46 = .ok (.aload_n 0, 1) := by decide +kernel
theorem dX12_takesFirst_47 : decode cX12_takesFirst 47 = .ok (.getfield 51, 3) := by decide +kernel
theorem dX12_takesFirst_50 : decode cX12_takesFirst 50 = .ok (.aload_n 0, 1) := by decide +kernel
theorem dX12_takesFirst_51 : decode cX12_takesFirst 51 = .ok (.getfield 54, 3) := by decide +kernel
theorem dX12_takesFirst_54 : decode cX12_takesFirst 54 = .ok (.iconst 0, 1) := by decide +kernel
theorem dX12_takesFirst_55 : decode cX12_takesFirst 55 = .ok (.iaload, 1) := by decide +kernel
theorem dX12_takesFirst_56 : decode cX12_takesFirst 56 = .ok (.aload_n 0, 1) := by decide +kernel
theorem dX12_takesFirst_57 : decode cX12_takesFirst 57 = .ok (.getfield 54, 3) := by decide +kernel
theorem dX12_takesFirst_60 : decode cX12_takesFirst 60 = .ok (.iconst 1, 1) := by decide +kernel
theorem dX12_takesFirst_61 : decode cX12_takesFirst 61 = .ok (.iaload, 1) := by decide +kernel
theorem dX12_takesFirst_62 : decode cX12_takesFirst 62 = .ok (.invokestatic 57, 3) := by decide +kernel
theorem dX12_takesFirst_65 : decode cX12_takesFirst 65 = .ok (.aload_n 0, 1) := by decide +kernel
theorem dX12_takesFirst_66 : decode cX12_takesFirst 66 = .ok (.getfield 242, 3) := by decide +kernel
theorem dX12_takesFirst_69 : decode cX12_takesFirst 69 = .ok (.iconst 3, 1) := by decide +kernel
theorem dX12_takesFirst_70 : decode cX12_takesFirst 70 = .ok (.if_icmp .ne 7, 3) := by decide +kernel
theorem dX12_takesFirst_73 : decode cX12_takesFirst 73 = .ok (.iconst 1, 1) := by decide +kernel
theorem dX12_takesFirst_74 : decode cX12_takesFirst 74 = .ok (.goto 4, 3) := by decide +kernel
theorem dX12_takesFirst_77 : decode cX12_takesFirst 77 = .ok (.iconst 0, 1) := by decide +kernel
theorem dX12_takesFirst_78 : decode cX12_takesFirst 78 = .ok (.ireturn, 1) := by decide +kernel
theorem dX12_takesChild_0 : decode cX12_takesChild 0 = .ok (.aload_n 0, 1) := by decide +kernel
theorem dX12_takesChild_1 : decode cX12_takesChild 1 = .ok (.iconst 5, 1) := by decide +kernel
theorem dX12_takesChild_2 : decode cX12_takesChild 2 = .ok (.bipush 99, 2) := by decide +kernel
theorem dX12_takesChild_4 : decode cX12_takesChild 4 = .ok (.bipush 104, 2) := by decide +kernel
theorem dX12_takesChild_6 : decode cX12_takesChild 6 = .ok (.bipush 105, 2) := by decide +kernel
theorem dX12_takesChild_8 : decode cX12_takesChild 8 = .ok (.bipush 108, 2) := by decide +kernel
theorem dX12_takesChild_10 : decode cX12_takesChild 10 = .ok (.bipush 100, 2) := by decide +kernel
theorem dX12_takesChild_12 : decode cX12_takesChild 12 = .ok (.invokevirtual 260, 3) := by decide +kernel
theorem dX12_takesChild_15 : decode cX12_takesChild 15 = .ok (.ifCond .eq 14, 3) := by decide +kernel
theorem dX12_takesChild_18 : decode cX12_takesChild 18 = .ok (.aload_n 0, 1) := by decide +kernel
theorem dX12_takesChild_19 : decode cX12_takesChild 19 = .ok (.getfield 51, 3) := by decide +kernel
theorem dX12_takesChild_22 : decode cX12_takesChild 22 = .ok (.iconst 0, 1) := by decide +kernel
theorem dX12_takesChild_23 : decode cX12_takesChild 23 = .ok (.iaload, 1) := by decide +kernel
theorem dX12_takesChild_24 : decode cX12_takesChild 24 = .ok (.bipush 6, 2) := by decide +kernel
theorem dX12_takesChild_26 : decode cX12_takesChild 26 = .ok (.if_icmp .ne 5, 3) := by decide +kernel
theorem dX12_takesChild_29 : decode cX12_takesChild 29 = .ok (.iconst 0, 1) := by decide +kernel
theorem dX12_takesChild_30 : decode cX12_takesChild 30 = .ok (.ireturn, 1) := by decide +kernel
theorem dX12_takesChild_31 : decode cX12_takesChild 31 = .ok (.aload_n 0, 1) := by decide +kernel
theorem dX12_takesChild_32 : decode cX12_takesChild 32 = .ok (.invokevirtual 257, 3) := by decide +kernel
theorem dX12_takesChild_35 : decode cX12_takesChild 35 = .ok (.aload_n 0, 1) := by decide +kernel
theorem dX12_takesChild_36 : decode cX12_takesChild 36 = .ok (.iconst 0, 1) := by decide +kernel
theorem dX12_takesChild_37 : decode cX12_takesChild 37 = .ok (.iconst 0, 1) := by decide +kernel
theorem dX12_takesChild_38 : decode cX12_takesChild 38 = .ok (.iconst 5, 1) := by decide +kernel
theorem dX12_takesChild_39 : decode cX12_takesChild 39 = .ok (.invokevirtual 264, 3) := by decide +kernel
theorem dX12_takesChild_42 : decode cX12_takesChild 42 = .ok (.ifCond .eq 46, 3) := by decide +kernel
theorem dX12_takesChild_45 : decode cX12_takesChild 45 = .ok (.aload_n 0, 1) := by decide +kernel
theorem dX12_takesChild_46 : decode cX12_takesChild 46 = .ok (.iconst 1, 1) := by decide +kernel
theorem dX12_takesChild_47 : decode cX12_takesChild 47 = .ok (.iconst 1, 1) := by decide +kernel
theorem dX12_takesChild_48 : decode cX12_takesChild 48 = .ok (.bipush 9, 2) := by decide +kernel
theorem dX12_takesChild_50 : decode cX12_takesChild 50 = .ok (.invokevirtual 264, 3) := by decide +kernel
theorem dX12_takesChild_53 : decode cX12_takesChild 53 = .ok (.ifCond .eq 35, 3) := by decide +kernel
theorem dX12_takesChild_56 : decode cX12_takesChild 56 = .ok (.aload_n 0, 1) := by decide +kernel
theorem dX12_takesChild_57 : decode cX12_takesChild 57 = .ok (.iconst 2, 1) := by decide +kernel
theorem dX12_takesChild_58 : decode cX12_takesChild 58 = .ok (.iconst 0, 1) := by decide +kernel
theorem dX12_takesChild_59 : decode cX12_takesChild 59 = .ok (.bipush 47, 2) := by decide +kernel
theorem dX12_takesChild_61 : decode cX12_takesChild 61 = .ok (.invokevirtual 264, 3) := by decide +kernel
theorem dX12_takesChild_64 : decode cX12_takesChild 64 = .ok (.ifCond .eq 24, 3) := by decide +kernel
theorem dX12_takesChild_67 : decode cX12_takesChild 67 = .ok (.aload_n 0, 1) := by decide +kernel
theorem dX12_takesChild_68 : decode cX12_takesChild 68 = .ok (.iconst 3, 1) := by decide +kernel
theorem dX12_takesChild_69 : decode cX12_takesChild 69 = .ok (.iconst 0, 1) := by decide +kernel
theorem dX12_takesChild_70 : decode cX12_takesChild 70 = .ok (.iconst 3, 1) := by decide +kernel
theorem dX12_takesChild_71 : decode cX12_takesChild 71 = .ok (.invokevirtual 264, 3) := by decide +kernel
theorem dX12_takesChild_74 : decode cX12_takesChild 74 = .ok (.ifCond .eq 14, 3) := by decide +kernel
theorem dX12_takesChild_77 : decode cX12_takesChild 77 = .ok (.aload_n 0, 1) := by decide +kernel
theorem dX12_takesChild_78 : decode cX12_takesChild 78 = .ok (.iconst 4, 1) := by decide +kernel
theorem dX12_takesChild_79 : decode cX12_takesChild 79 = .ok (.iconst 0, 1) := by decide +kernel
theorem dX12_takesChild_80 : decode cX12_takesChild 80 = .ok (.bipush 60, 2) := by decide +kernel
theorem dX12_takesChild_82 : decode cX12_takesChild 82 = .ok (.invokevirtual 264, 3) := by decide +kernel
theorem dX12_takesChild_85 : decode cX12_takesChild 85 = .ok (.ifCond .ne 5, 3) := by decide +kernel
theorem dX12_takesChild_88 : decode cX12_takesChild 88 = .ok (.iconst 0, 1) := by decide +kernel
theorem dX12_takesChild_89 : decode cX12_takesChild 89 = .ok (.ireturn, 1) := by decide +kernel
theorem dX12_takesChild_90 : decode cX12_takesChild 90 = .ok (.aload_n 0, 1) := by decide +kernel
theorem dX12_takesChild_91 : decode cX12_takesChild 91 = .ok (.getfield 51, 3) := by decide +kernel
theorem dX12_takesChild_94 : decode cX12_takesChild 94 = .ok (.aload_n 0, 1) := by decide +kernel
theorem dX12_takesChild_95 : decode cX12_takesChild 95 = .ok (.getfield 54, 3) := by decide +kernel
theorem dX12_takesChild_98 : decode cX12_takesChild 98 = .ok (.iconst 0, 1) := by decide +kernel
theorem dX12_takesChild_99 : decode cX12_takesChild 99 = .ok (.iaload, 1) := by decide +kernel
theorem dX12_takesChild_100 : decode cX12_takesChild 100 = .ok (.aload_n 0, 1) := by decide +kernel
theorem dX12_takesChild_101 : decode cX12_takesChild 101 = .ok (.getfield 54, 3) := by decide +kernel
theorem dX12_takesChild_104 : decode cX12_takesChild 104 = .ok (.iconst 1, 1) := by decide +kernel
theorem dX12_takesChild_105 : decode cX12_takesChild 105 = .ok (.iaload, 1) := by decide +kernel
theorem dX12_takesChild_106 : decode cX12_takesChild 106 = .ok (.aload_n 0, 1) := by decide +kernel
theorem dX12_takesChild_107 : decode cX12_takesChild 107 = .ok (.getfield 54, 3) := by decide +kernel
theorem dX12_takesChild_110 : decode cX12_takesChild 110 = .ok (.iconst 2, 1) := by decide +kernel
theorem dX12_takesChild_111 : decode cX12_takesChild 111 = .ok (.iaload, 1) := by decide +kernel
theorem dX12_takesChild_112 : decode cX12_takesChild 112 = .ok (.aload_n 0, 1) := by decide +kernel
theorem dX12_takesChild_113 : decode cX12_takesChild 113 = .ok (.getfield 54, 3) := by decide +kernel
theorem dX12_takesChild_116 : decode cX12_takesChild 116 = .ok (.iconst 3, 1) := by decide +kernel
theorem dX12_takesChild_117 : decode cX12_takesChild 117 = .ok (.iaload, 1) := by decide +kernel
theorem dX12_takesChild_118 : decode cX12_takesChild 118 = .ok (.aload_n 0, 1) := by decide +kernel
theorem dX12_takesChild_119 : decode cX12_takesChild 119 = .ok (.getfield 54, 3) := by decide +kernel
theorem dX12_takesChild_122 : decode cX12_takesChild 122 = .ok (.iconst 4, 1) := by decide +kernel
theorem dX12_takesChild_123 : decode cX12_takesChild 123 = .ok (.iaload, 1) := by decide +kernel
theorem dX12_takesChild_124 : decode cX12_takesChild 124 = .ok (.invokestatic 94, 3) := by decide +kernel
theorem dX12_takesChild_127 : decode cX12_takesChild 127 = .ok (.iconst 1, 1) := by decide +kernel
theorem dX12_takesChild_128 : decode cX12_takesChild 128 = .ok (.ireturn, 1) := by decide +kernel
theorem dX12_read_0 : decode cX12_read 0 = .ok (.aload_n 0, 1) := by decide +kernel
theorem dX12_read_1 : decode cX12_read 1 = .ok (.iconst 0, 1) := by decide +kernel
theorem dX12_read_2 : decode cX12_read 2 = .ok (.invokevirtual 254, 3) := by decide +kernel
theorem dX12_read_5 : decode cX12_read 5 = .ok (.aload_n 0, 1) := by decide +kernel
theorem dX12_read_6 : decode cX12_read 6 = .ok (.invokevirtual 267, 3) := by decide +kernel
theorem dX12_read_9 : decode cX12_read 9 = .ok (.ifCond .ne 11, 3) := by decide +kernel
theorem dX12_read_12 : decode cX12_read 12 = .ok (.bipush (-10), 2) := by decide +kernel
theorem dX12_read_14 : decode cX12_read 14 = .ok (.aload_n 0, 1) := by decide +kernel
theorem dX12_read_15 : decode cX12_read 15 = .ok (.getfield 236, 3) := by decide +kernel
theorem dX12_read_18 : decode cX12_read 18 = .ok (.isub, 1) := by decide +kernel
theorem dX12_read_19 : decode cX12_read 19 = .ok (.ireturn, 1) := by decide +kernel
theorem dX12_read_20 : decode cX12_read 20 = .ok (.aload_n 0, 1) := by decide +kernel
theorem dX12_read_21 : decode cX12_read 21 = .ok (.invokevirtual 257, 3) := by decide +kernel
theorem dX12_read_24 : decode cX12_read 24 = .ok (.iconst 1, 1) := by decide +kernel
theorem dX12_read_25 : decode cX12_read 25 = .ok (.istore_n 1, 1) := by decide +kernel
theorem dX12_read_26 : decode cX12_read 26 = .ok (.aload_n 0, 1) := by decide +kernel
theorem dX12_read_27 : decode cX12_read 27 = .ok (.getfield 242, 3) := by decide +kernel
theorem dX12_read_30 : decode cX12_read 30 = .ok (.ifCond .eq 36, 3) := by decide +kernel
theorem dX12_read_33 : decode cX12_read 33 = .ok (.aload_n 0, 1) := by decide +kernel
theorem dX12_read_34 : decode cX12_read 34 = .ok (.invokevirtual 270, 3) := by decide +kernel
theorem dX12_read_37 : decode cX12_read 37 = .ok (.ifCond .eq 11, 3) := by decide +kernel
theorem dX12_read_40 : decode cX12_read 40 = .ok (.aload_n 0, 1) := by decide +kernel
theorem dX12_read_41 : decode cX12_read 41 = .ok (.getfield 242, 3) := by decide +kernel
theorem dX12_read_44 : decode cX12_read 44 = .ok (.iconst 3, 1) := by decide +kernel
theorem dX12_read_45 : decode cX12_read 45 = .ok (.if_icmp .eq 11, 3) := by decide +kernel
theorem dX12_read_48 : decode cX12_read 48 = .ok (.bipush (-10), 2) := by decide +kernel
theorem dX12_read_50 : decode cX12_read 50 = .ok (.aload_n 0, 1) := by decide +kernel
theorem dX12_read_51 : decode cX12_read 51 = .ok (.getfield 236, 3) := by decide +kernel
theorem dX12_read_54 : decode cX12_read 54 = .ok (.isub, 1) := by decide +kernel
theorem dX12_read_55 : decode cX12_read 55 = .ok (.ireturn, 1) := by decide +kernel
theorem dX12_read_56 : decode cX12_read 56 = .ok (.aload_n 0, 1) := by decide +kernel
theorem dX12_read_57 : decode cX12_read 57 = .ok (.invokevirtual 257, 3) := by decide +kernel
theorem dX12_read_60 : decode cX12_read 60 = .ok (.iinc 1 1, 3) := by decide +kernel
theorem dX12_read_63 : decode cX12_read 63 = .ok (.goto (-37), 3) := by decide +kernel
theorem dX12_read_66 : decode cX12_read 66 = .ok (.iconst 0, 1) := by decide +kernel
theorem dX12_read_67 : decode cX12_read 67 = .ok (.istore_n 2, 1) := by decide +kernel
theorem dX12_read_68 : decode cX12_read 68 = .ok (.iload_n 2, 1) := by decide +kernel
theorem dX12_read_69 : decode cX12_read 69 = .ok (.bipush 74, 2) := by decide +kernel
theorem dX12_read_71 : decode cX12_read 71 = .ok (.if_icmp .ge 21, 3) := by decide +kernel
theorem dX12_read_74 : decode cX12_read 74 = .ok (.aload_n 0, 1) := by decide +kernel
theorem dX12_read_75 : decode cX12_read 75 = .ok (.getfield 7, 3) := by decide +kernel
theorem dX12_read_78 : decode cX12_read 78 = .ok (.iload_n 2, 1) := by decide +kernel
theorem dX12_read_79 : decode cX12_read 79 = .ok (.aload_n 0, 1) := by decide +kernel
theorem dX12_read_80 : decode cX12_read 80 = .ok (.getfield 51, 3) := by decide +kernel
theorem dX12_read_83 : decode cX12_read 83 = .ok (.iload_n 2, 1) := by decide +kernel
theorem dX12_read_84 : decode cX12_read 84 = .ok (.iaload, 1) := by decide +kernel
theorem dX12_read_85 : decode cX12_read 85 = .ok (.iastore, 1) := by decide +kernel
theorem dX12_read_86 : decode cX12_read 86 = .ok (.iinc 2 1, 3) := by decide +kernel
theorem dX12_read_89 : decode cX12_read 89 = .ok (.goto (-21), 3) := by decide +kernel
theorem dX12_read_92 : decode cX12_read 92 = .ok (.iload_n 1, 1) := by decide +kernel
theorem dX12_read_93 : decode cX12_read 93 = .ok (.ireturn, 1) := by decide +kernel
theorem dX12_part_0 : decode cX12_part 0 = .ok (.iload_n 1, 1) := by decide +kernel
theorem dX12_part_1 : decode cX12_part 1 = .ok (.ifCond .ne 10, 3) := by decide +kernel
theorem dX12_part_4 : decode cX12_part 4 = .ok (.aload_n 0, 1) := by decide +kernel
theorem dX12_part_5 : decode cX12_part 5 = .ok (.getfield 202, 3) := by decide +kernel
theorem dX12_part_8 : decode cX12_part 8 = .ok (.goto 22, 3) := by decide +kernel
theorem dX12_part_11 : decode cX12_part 11 = .ok (.iload_n 1, 1) := by decide +kernel
theorem dX12_part_12 : decode cX12_part 12 = .ok (.iconst 1, 1) := by decide +kernel
theorem dX12_part_13 : decode cX12_part 13 = .ok (.if_icmp .ne 10, 3) := by decide +kernel
theorem dX12_part_16 : decode cX12_part 16 = .ok (.aload_n 0, 1) := by decide +kernel
theorem dX12_part_17 : decode cX12_part 17 = .ok (.getfield 23, 3) := by decide +kernel
theorem dX12_part_20 : decode cX12_part 20 = .ok (.goto 10, 3) := by decide +kernel
theorem dX12_part_23 : decode cX12_part 23 = .ok (.aload_n 0, 1) := by decide +kernel
theorem dX12_part_24 : decode cX12_part 24 = .ok (.bipush (-2), 2) := by decide +kernel
theorem dX12_part_26 : decode cX12_part 26 = .ok (.invokevirtual 75, 3) := by decide +kernel
theorem dX12_part_29 : decode cX12_part 29 = .ok (.i2l, 1) := by decide +kernel
theorem dX12_part_30 : decode cX12_part 30 = .ok (.lreturn, 1) := by decide +kernel
theorem dX12_image_0 : decode cX12_image 0 = .ok (.iload_n 1, 1) := by decide +kernel
theorem dX12_image_1 : decode cX12_image 1 = .ok (.i2l, 1) := by decide +kernel
theorem dX12_image_2 : decode cX12_image 2 = .ok (.lconst 0, 1) := by decide +kernel
theorem dX12_image_3 : decode cX12_image 3 = .ok (.lconst 1, 1) := by decide +kernel
theorem dX12_image_4 : decode cX12_image 4 = .ok (.invokestatic 65, 3) := by decide +kernel
theorem dX12_image_7 : decode cX12_image 7 = .ok (.ifCond .ne 10, 3) := by decide +kernel
theorem dX12_image_10 : decode cX12_image 10 = .ok (.aload_n 0, 1) := by decide +kernel
theorem dX12_image_11 : decode cX12_image 11 = .ok (.bipush (-2), 2) := by decide +kernel
theorem dX12_image_13 : decode cX12_image 13 = .ok (.invokevirtual 75, 3) := by decide +kernel
theorem dX12_image_16 : decode cX12_image 16 = .ok (.ireturn, 1) := by decide +kernel
theorem dX12_image_17 : decode cX12_image 17 = .ok (.iconst 0, 1) := by decide +kernel
theorem dX12_image_18 : decode cX12_image 18 = .ok (.istore_n 2, 1) := by decide +kernel
theorem dX12_image_19 : decode cX12_image 19 = .ok (.iload_n 2, 1) := by decide +kernel
theorem dX12_image_20 : decode cX12_image 20 = .ok (.sipush 170, 3) := by decide +kernel
theorem dX12_image_23 : decode cX12_image 23 = .ok (.if_icmp .ge 27, 3) := by decide +kernel
theorem dX12_image_26 : decode cX12_image 26 = .ok (.aload_n 0, 1) := by decide +kernel
theorem dX12_image_27 : decode cX12_image 27 = .ok (.getfield 13, 3) := by decide +kernel
theorem dX12_image_30 : decode cX12_image 30 = .ok (.sipush 170, 3) := by decide +kernel
theorem dX12_image_33 : decode cX12_image 33 = .ok (.iload_n 1, 1) := by decide +kernel
theorem dX12_image_34 : decode cX12_image 34 = .ok (.imul, 1) := by decide +kernel
theorem dX12_image_35 : decode cX12_image 35 = .ok (.iload_n 2, 1) := by decide +kernel
theorem dX12_image_36 : decode cX12_image 36 = .ok (.iadd, 1) := by decide +kernel
theorem dX12_image_37 : decode cX12_image 37 = .ok (.aload_n 0, 1) := by decide +kernel
theorem dX12_image_38 : decode cX12_image 38 = .ok (.getfield 7, 3) := by decide +kernel
theorem dX12_image_41 : decode cX12_image 41 = .ok (.iload_n 2, 1) := by decide +kernel
theorem dX12_image_42 : decode cX12_image 42 = .ok (.iaload, 1) := by decide +kernel
theorem dX12_image_43 : decode cX12_image 43 = .ok (.iastore, 1) := by decide +kernel
theorem dX12_image_44 : decode cX12_image 44 = .ok (.iinc 2 1, 3) := by decide +kernel
theorem dX12_image_47 : decode cX12_image 47 = .ok (.goto (-28), 3) := by decide +kernel
theorem dX12_image_50 : decode cX12_image 50 = .ok (.aload_n 0, 1) := by decide +kernel
theorem dX12_image_51 : decode cX12_image 51 = .ok (.getfield 16, 3) := by decide +kernel
theorem dX12_image_54 : decode cX12_image 54 = .ok (.iload_n 1, 1) := by decide +kernel
theorem dX12_image_55 : decode cX12_image 55 = .ok (.iconst 1, 1) := by decide +kernel
theorem dX12_image_56 : decode cX12_image 56 = .ok (.bastore, 1) := by decide +kernel
theorem dX12_image_57 : decode cX12_image 57 = .ok (.iconst 1, 1) := by decide +kernel
theorem dX12_image_58 : decode cX12_image 58 = .ok (.ireturn, 1) := by decide +kernel
theorem dX12_from_0 : decode cX12_from 0 = .ok (.iload_n 1, 1) := by decide +kernel
theorem dX12_from_1 : decode cX12_from 1 = .ok (.i2l, 1) := by decide +kernel
theorem dX12_from_2 : decode cX12_from 2 = .ok (.lconst 0, 1) := by decide +kernel
theorem dX12_from_3 : decode cX12_from 3 = .ok (.lconst 1, 1) := by decide +kernel
theorem dX12_from_4 : decode cX12_from 4 = .ok (.invokestatic 65, 3) := by decide +kernel
theorem dX12_from_7 : decode cX12_from 7 = .ok (.ifCond .ne 10, 3) := by decide +kernel
theorem dX12_from_10 : decode cX12_from 10 = .ok (.aload_n 0, 1) := by decide +kernel
theorem dX12_from_11 : decode cX12_from 11 = .ok (.bipush (-2), 2) := by decide +kernel
theorem dX12_from_13 : decode cX12_from 13 = .ok (.invokevirtual 75, 3) := by decide +kernel
theorem dX12_from_16 : decode cX12_from 16 = .ok (.ireturn, 1) := by decide +kernel
theorem dX12_from_17 : decode cX12_from 17 = .ok (.aload_n 0, 1) := by decide +kernel
theorem dX12_from_18 : decode cX12_from 18 = .ok (.getfield 16, 3) := by decide +kernel
theorem dX12_from_21 : decode cX12_from 21 = .ok (.iload_n 1, 1) := by decide +kernel
theorem dX12_from_22 : decode cX12_from 22 = .ok (.baload, 1) := by decide +kernel
theorem dX12_from_23 : decode cX12_from 23 = .ok (.ifCond .ne 8, 3) := by decide +kernel
theorem dX12_from_26 : decode cX12_from 26 = .ok (.aload_n 0, 1) := by decide +kernel
theorem dX12_from_27 : decode cX12_from 27 = .ok (.invokevirtual 112, 3) := by decide +kernel
theorem dX12_from_30 : decode cX12_from 30 = .ok (.ireturn, 1) := by decide +kernel
theorem dX12_from_31 : decode cX12_from 31 = .ok (.iconst 0, 1) := by decide +kernel
theorem dX12_from_32 : decode cX12_from 32 = .ok (.istore_n 2, 1) := by decide +kernel
theorem dX12_from_33 : decode cX12_from 33 = .ok (.iload_n 2, 1) := by decide +kernel
theorem dX12_from_34 : decode cX12_from 34 = .ok (.sipush 170, 3) := by decide +kernel
theorem dX12_from_37 : decode cX12_from 37 = .ok (.if_icmp .ge 27, 3) := by decide +kernel
theorem dX12_from_40 : decode cX12_from 40 = .ok (.aload_n 0, 1) := by decide +kernel
theorem dX12_from_41 : decode cX12_from 41 = .ok (.getfield 7, 3) := by decide +kernel
theorem dX12_from_44 : decode cX12_from 44 = .ok (.iload_n 2, 1) := by decide +kernel
theorem dX12_from_45 : decode cX12_from 45 = .ok (.aload_n 0, 1) := by decide +kernel
theorem dX12_from_46 : decode cX12_from 46 = .ok (.getfield 13, 3) := by decide +kernel
theorem dX12_from_49 : decode cX12_from 49 = .ok (.sipush 170, 3) := by decide +kernel
theorem dX12_from_52 : decode cX12_from 52 = .ok (.iload_n 1, 1) := by decide +kernel
theorem dX12_from_53 : decode cX12_from 53 = .ok (.imul, 1) := by decide +kernel
theorem dX12_from_54 : decode cX12_from 54 = .ok (.iload_n 2, 1) := by decide +kernel
theorem dX12_from_55 : decode cX12_from 55 = .ok (.iadd, 1) := by decide +kernel
theorem dX12_from_56 : decode cX12_from 56 = .ok (.iaload, 1) := by decide +kernel
theorem dX12_from_57 : decode cX12_from 57 = .ok (.iastore, 1) := by decide +kernel
theorem dX12_from_58 : decode cX12_from 58 = .ok (.iinc 2 1, 3) := by decide +kernel
theorem dX12_from_61 : decode cX12_from 61 = .ok (.goto (-28), 3) := by decide +kernel
theorem dX12_from_64 : decode cX12_from 64 = .ok (.iconst 1, 1) := by decide +kernel
theorem dX12_from_65 : decode cX12_from 65 = .ok (.ireturn, 1) := by decide +kernel
theorem dX12_status_0 : decode cX12_status 0 = .ok (.iload_n 1, 1) := by decide +kernel
theorem dX12_status_1 : decode cX12_status 1 = .ok (.i2l, 1) := by decide +kernel
theorem dX12_status_2 : decode cX12_status 2 = .ok (.lconst 0, 1) := by decide +kernel
theorem dX12_status_3 : decode cX12_status 3 = .ok (.ldc2_w 73, 3) := by decide +kernel
theorem dX12_status_6 : decode cX12_status 6 = .ok (.invokestatic 65, 3) := by decide +kernel
theorem dX12_status_9 : decode cX12_status 9 = .ok (.ifCond .eq 12, 3) := by decide +kernel
theorem dX12_status_12 : decode cX12_status 12 = .ok (.aload_n 0, 1) := by decide +kernel
theorem dX12_status_13 : decode cX12_status 13 = .ok (.getfield 20, 3) := by decide +kernel
theorem dX12_status_16 : decode cX12_status 16 = .ok (.iload_n 1, 1) := by decide +kernel
theorem dX12_status_17 : decode cX12_status 17 = .ok (.iaload, 1) := by decide +kernel
theorem dX12_status_18 : decode cX12_status 18 = .ok (.goto 8, 3) := by decide +kernel
theorem dX12_status_21 : decode cX12_status 21 = .ok (.aload_n 0, 1) := by decide +kernel
theorem dX12_status_22 : decode cX12_status 22 = .ok (.iconst (-1), 1) := by decide +kernel
theorem dX12_status_23 : decode cX12_status 23 = .ok (.invokevirtual 75, 3) := by decide +kernel
theorem dX12_status_26 : decode cX12_status 26 = .ok (.ireturn, 1) := by decide +kernel
theorem dX12_counted_0 : decode cX12_counted 0 = .ok (.iload_n 1, 1) := by decide +kernel
theorem dX12_counted_1 : decode cX12_counted 1 = .ok (.bipush 6, 2) := by decide +kernel
theorem dX12_counted_3 : decode cX12_counted 3 = .ok (.if_icmp .ge 12, 3) := by decide +kernel
theorem dX12_counted_6 : decode cX12_counted 6 = .ok (.aload_n 0, 1) := by decide +kernel
theorem dX12_counted_7 : decode cX12_counted 7 = .ok (.getfield 7, 3) := by decide +kernel
theorem dX12_counted_10 : decode cX12_counted 10 = .ok (.iload_n 1, 1) := by decide +kernel
theorem dX12_counted_11 : decode cX12_counted 11 = .ok (.iaload, 1) := by decide +kernel
theorem dX12_counted_12 : decode cX12_counted 12 = .ok (.goto 7, 3) := by decide +kernel
theorem dX12_counted_15 : decode cX12_counted 15 = .ok (.aload_n 0, 1) := by decide +kernel
theorem dX12_counted_16 : decode cX12_counted 16 = .ok (.getfield 225, 3) := by decide +kernel
theorem dX12_counted_19 : decode cX12_counted 19 = .ok (.ireturn, 1) := by decide +kernel
theorem dX12_count_0 : decode cX12_count 0 = .ok (.iload_n 1, 1) := by decide +kernel
theorem dX12_count_1 : decode cX12_count 1 = .ok (.i2l, 1) := by decide +kernel
theorem dX12_count_2 : decode cX12_count 2 = .ok (.lconst 0, 1) := by decide +kernel
theorem dX12_count_3 : decode cX12_count 3 = .ok (.ldc2_w 182, 3) := by decide +kernel
theorem dX12_count_6 : decode cX12_count 6 = .ok (.invokestatic 65, 3) := by decide +kernel
theorem dX12_count_9 : decode cX12_count 9 = .ok (.ifCond .eq 11, 3) := by decide +kernel
theorem dX12_count_12 : decode cX12_count 12 = .ok (.aload_n 0, 1) := by decide +kernel
theorem dX12_count_13 : decode cX12_count 13 = .ok (.iload_n 1, 1) := by decide +kernel
theorem dX12_count_14 : decode cX12_count 14 = .ok (.invokevirtual 273, 3) := by decide +kernel
theorem dX12_count_17 : decode cX12_count 17 = .ok (.goto 9, 3) := by decide +kernel
theorem dX12_count_20 : decode cX12_count 20 = .ok (.aload_n 0, 1) := by decide +kernel
theorem dX12_count_21 : decode cX12_count 21 = .ok (.bipush (-2), 2) := by decide +kernel
theorem dX12_count_23 : decode cX12_count 23 = .ok (.invokevirtual 75, 3) := by decide +kernel
theorem dX12_count_26 : decode cX12_count 26 = .ok (.ireturn, 1) := by decide +kernel
theorem dX12_sums_0 : decode cX12_sums 0 = .ok (.lload_n 1, 1) := by decide +kernel
theorem dX12_sums_1 : decode cX12_sums 1 = .ok (.lstore 5, 2) := by decide +kernel
theorem dX12_sums_3 : decode cX12_sums 3 = .ok (.iconst 0, 1) := by decide +kernel
theorem dX12_sums_4 : decode cX12_sums 4 = .ok (.istore 7, 2) := by decide +kernel
theorem dX12_sums_6 : decode cX12_sums 6 = .ok (.iload 7, 2) := by decide +kernel
theorem dX12_sums_8 : decode cX12_sums 8 = .ok (.iload 4, 2) := by decide +kernel
theorem dX12_sums_10 : decode cX12_sums 10 = .ok (.if_icmp .ge 28, 3) := by decide +kernel
theorem dX12_sums_13 : decode cX12_sums 13 = .ok (.ldc2_w 276, 3) := by decide +kernel
theorem dX12_sums_16 : decode cX12_sums 16 = .ok (.lload 5, 2) := by decide +kernel
theorem dX12_sums_18 : decode cX12_sums 18 = .ok (.lmul, 1) := by decide +kernel
theorem dX12_sums_19 : decode cX12_sums 19 = .ok (.aload_n 0, 1) := by decide +kernel
theorem dX12_sums_20 : decode cX12_sums 20 = .ok (.getfield 7, 3) := by decide +kernel
theorem dX12_sums_23 : decode cX12_sums 23 = .ok (.iload_n 3, 1) := by decide +kernel
theorem dX12_sums_24 : decode cX12_sums 24 = .ok (.iload 7, 2) := by decide +kernel
theorem dX12_sums_26 : decode cX12_sums 26 = .ok (.iadd, 1) := by decide +kernel
theorem dX12_sums_27 : decode cX12_sums 27 = .ok (.iaload, 1) := by decide +kernel
theorem dX12_sums_28 : decode cX12_sums 28 = .ok (.i2l, 1) := by decide +kernel
theorem dX12_sums_29 : decode cX12_sums 29 = .ok (.ladd, 1) := by decide +kernel
theorem dX12_sums_30 : decode cX12_sums 30 = .ok (.lstore 5, 2) := by decide +kernel
theorem dX12_sums_32 : decode cX12_sums 32 = .ok (.iinc 7 1, 3) := by decide +kernel
theorem dX12_sums_35 : decode cX12_sums 35 = .ok (.goto (-29), 3) := by decide +kernel
theorem dX12_sums_38 : decode cX12_sums 38 = .ok (.lload 5, 2) := by decide +kernel
theorem dX12_sums_40 : decode cX12_sums 40 = .ok (.lreturn, 1) := by decide +kernel
theorem dX12_digest_0 : decode cX12_digest 0 = .ok (.ldc2_w 278, 3) := by decide +kernel
theorem dX12_digest_3 : decode cX12_digest 3 = .ok (.lstore_n 1, 1) := by decide +kernel
theorem dX12_digest_4 : decode cX12_digest 4 = .ok (.iconst 0, 1) := by decide +kernel
theorem dX12_digest_5 : decode cX12_digest 5 = .ok (.istore_n 3, 1) := by decide +kernel
theorem dX12_digest_6 : decode cX12_digest 6 = .ok (.iload_n 3, 1) := by decide +kernel
theorem dX12_digest_7 : decode cX12_digest 7 = .ok (.bipush 7, 2) := by decide +kernel
theorem dX12_digest_9 : decode cX12_digest 9 = .ok (.if_icmp .ge 22, 3) := by decide +kernel
theorem dX12_digest_12 : decode cX12_digest 12 = .ok (.ldc2_w 276, 3) := by decide +kernel
theorem dX12_digest_15 : decode cX12_digest 15 = .ok (.lload_n 1, 1) := by decide +kernel
theorem dX12_digest_16 : decode cX12_digest 16 = .ok (.lmul, 1) := by decide +kernel
theorem dX12_digest_17 : decode cX12_digest 17 = .ok (.aload_n 0, 1) := by decide +kernel
theorem dX12_digest_18 : decode cX12_digest 18 = .ok (.iload_n 3, 1) := by decide +kernel
theorem dX12_digest_19 : decode cX12_digest 19 = .ok (.invokevirtual 273, 3) := by decide +kernel
theorem dX12_digest_22 : decode cX12_digest 22 = .ok (.i2l, 1) := by decide +kernel
theorem dX12_digest_23 : decode cX12_digest 23 = .ok (.ladd, 1) := by decide +kernel
theorem dX12_digest_24 : decode cX12_digest 24 = .ok (.lstore_n 1, 1) := by decide +kernel
theorem dX12_digest_25 : decode cX12_digest 25 = .ok (.iinc 3 1, 3) := by decide +kernel
theorem dX12_digest_28 : decode cX12_digest 28 = .ok (.goto (-22), 3) := by decide +kernel
theorem dX12_digest_31 : decode cX12_digest 31 = .ok (.aload_n 0, 1) := by decide +kernel
theorem dX12_digest_32 : decode cX12_digest 32 = .ok (.lload_n 1, 1) := by decide +kernel
theorem dX12_digest_33 : decode cX12_digest 33 = .ok (.bipush 6, 2) := by decide +kernel
theorem dX12_digest_35 : decode cX12_digest 35 = .ok (.iconst 5, 1) := by decide +kernel
theorem dX12_digest_36 : decode cX12_digest 36 = .ok (.aload_n 0, 1) := by decide +kernel
theorem dX12_digest_37 : decode cX12_digest 37 = .ok (.invokevirtual 61, 3) := by decide +kernel
theorem dX12_digest_40 : decode cX12_digest 40 = .ok (.imul, 1) := by decide +kernel
theorem dX12_digest_41 : decode cX12_digest 41 = .ok (.invokevirtual 280, 3) := by decide +kernel
theorem dX12_digest_44 : decode cX12_digest 44 = .ok (.lstore_n 1, 1) := by decide +kernel
theorem dX12_digest_45 : decode cX12_digest 45 = .ok (.aload_n 0, 1) := by decide +kernel
theorem dX12_digest_46 : decode cX12_digest 46 = .ok (.lload_n 1, 1) := by decide +kernel
theorem dX12_digest_47 : decode cX12_digest 47 = .ok (.bipush 36, 2) := by decide +kernel
theorem dX12_digest_49 : decode cX12_digest 49 = .ok (.aload_n 0, 1) := by decide +kernel
theorem dX12_digest_50 : decode cX12_digest 50 = .ok (.getfield 7, 3) := by decide +kernel
theorem dX12_digest_53 : decode cX12_digest 53 = .ok (.iconst 3, 1) := by decide +kernel
theorem dX12_digest_54 : decode cX12_digest 54 = .ok (.iaload, 1) := by decide +kernel
theorem dX12_digest_55 : decode cX12_digest 55 = .ok (.invokevirtual 280, 3) := by decide +kernel
theorem dX12_digest_58 : decode cX12_digest 58 = .ok (.lstore_n 1, 1) := by decide +kernel
theorem dX12_digest_59 : decode cX12_digest 59 = .ok (.aload_n 0, 1) := by decide +kernel
theorem dX12_digest_60 : decode cX12_digest 60 = .ok (.lload_n 1, 1) := by decide +kernel
theorem dX12_digest_61 : decode cX12_digest 61 = .ok (.bipush 56, 2) := by decide +kernel
theorem dX12_digest_63 : decode cX12_digest 63 = .ok (.iconst 3, 1) := by decide +kernel
theorem dX12_digest_64 : decode cX12_digest 64 = .ok (.aload_n 0, 1) := by decide +kernel
theorem dX12_digest_65 : decode cX12_digest 65 = .ok (.getfield 7, 3) := by decide +kernel
theorem dX12_digest_68 : decode cX12_digest 68 = .ok (.iconst 4, 1) := by decide +kernel
theorem dX12_digest_69 : decode cX12_digest 69 = .ok (.iaload, 1) := by decide +kernel
theorem dX12_digest_70 : decode cX12_digest 70 = .ok (.imul, 1) := by decide +kernel
theorem dX12_digest_71 : decode cX12_digest 71 = .ok (.invokevirtual 280, 3) := by decide +kernel
theorem dX12_digest_74 : decode cX12_digest 74 = .ok (.lstore_n 1, 1) := by decide +kernel
theorem dX12_digest_75 : decode cX12_digest 75 = .ok (.ldc2_w 276, 3) := by decide +kernel
theorem dX12_digest_78 : decode cX12_digest 78 = .ok (.ldc2_w 276, 3) := by decide +kernel
theorem dX12_digest_81 : decode cX12_digest 81 = .ok (.lload_n 1, 1) := by decide +kernel
theorem dX12_digest_82 : decode cX12_digest 82 = .ok (.lmul, 1) := by decide +kernel
theorem dX12_digest_83 : decode cX12_digest 83 = .ok (.aload_n 0, 1) := by decide +kernel
theorem dX12_digest_84 : decode cX12_digest 84 = .ok (.getfield 202, 3) := by decide +kernel
theorem dX12_digest_87 : decode cX12_digest 87 = .ok (.ladd, 1) := by decide +kernel
theorem dX12_digest_88 : decode cX12_digest 88 = .ok (.lmul, 1) := by decide +kernel
theorem dX12_digest_89 : decode cX12_digest 89 = .ok (.aload_n 0, 1) := by decide +kernel
theorem dX12_digest_90 : decode cX12_digest 90 = .ok (.getfield 23, 3) := by decide +kernel
theorem dX12_digest_93 : decode cX12_digest 93 = .ok (.ladd, 1) := by decide +kernel
theorem dX12_digest_94 : decode cX12_digest 94 = .ok (.lreturn, 1) := by decide +kernel
theorem dJ6_bitCount_0f7a4_0 : decode cJ6_bitCount_0f7a4 0 = .ok (.iload_n 0, 1) := by decide +kernel
theorem dJ6_bitCount_0f7a4_1 : decode cJ6_bitCount_0f7a4 1 = .ok (.iload_n 0, 1) := by decide +kernel
theorem dJ6_bitCount_0f7a4_2 : decode cJ6_bitCount_0f7a4 2 = .ok (.iconst 1, 1) := by decide +kernel
theorem dJ6_bitCount_0f7a4_3 : decode cJ6_bitCount_0f7a4 3 = .ok (.iushr, 1) := by decide +kernel
theorem dJ6_bitCount_0f7a4_4 : decode cJ6_bitCount_0f7a4 4 = .ok (.ldc_w 265, 3) := by decide +kernel
theorem dJ6_bitCount_0f7a4_7 : decode cJ6_bitCount_0f7a4 7 = .ok (.iand, 1) := by decide +kernel
theorem dJ6_bitCount_0f7a4_8 : decode cJ6_bitCount_0f7a4 8 = .ok (.isub, 1) := by decide +kernel
theorem dJ6_bitCount_0f7a4_9 : decode cJ6_bitCount_0f7a4 9 = .ok (.istore_n 0, 1) := by decide +kernel
theorem dJ6_bitCount_0f7a4_10 : decode cJ6_bitCount_0f7a4 10 = .ok (.iload_n 0, 1) := by decide +kernel
theorem dJ6_bitCount_0f7a4_11 : decode cJ6_bitCount_0f7a4 11 = .ok (.ldc_w 266, 3) := by decide +kernel
theorem dJ6_bitCount_0f7a4_14 : decode cJ6_bitCount_0f7a4 14 = .ok (.iand, 1) := by decide +kernel
theorem dJ6_bitCount_0f7a4_15 : decode cJ6_bitCount_0f7a4 15 = .ok (.iload_n 0, 1) := by decide +kernel
theorem dJ6_bitCount_0f7a4_16 : decode cJ6_bitCount_0f7a4 16 = .ok (.iconst 2, 1) := by decide +kernel
theorem dJ6_bitCount_0f7a4_17 : decode cJ6_bitCount_0f7a4 17 = .ok (.iushr, 1) := by decide +kernel
theorem dJ6_bitCount_0f7a4_18 : decode cJ6_bitCount_0f7a4 18 = .ok (.ldc_w 266, 3) := by decide +kernel
theorem dJ6_bitCount_0f7a4_21 : decode cJ6_bitCount_0f7a4 21 = .ok (.iand, 1) := by decide +kernel
theorem dJ6_bitCount_0f7a4_22 : decode cJ6_bitCount_0f7a4 22 = .ok (.iadd, 1) := by decide +kernel
theorem dJ6_bitCount_0f7a4_23 : decode cJ6_bitCount_0f7a4 23 = .ok (.istore_n 0, 1) := by decide +kernel
theorem dJ6_bitCount_0f7a4_24 : decode cJ6_bitCount_0f7a4 24 = .ok (.iload_n 0, 1) := by decide +kernel
theorem dJ6_bitCount_0f7a4_25 : decode cJ6_bitCount_0f7a4 25 = .ok (.iload_n 0, 1) := by decide +kernel
theorem dJ6_bitCount_0f7a4_26 : decode cJ6_bitCount_0f7a4 26 = .ok (.iconst 4, 1) := by decide +kernel
theorem dJ6_bitCount_0f7a4_27 : decode cJ6_bitCount_0f7a4 27 = .ok (.iushr, 1) := by decide +kernel
theorem dJ6_bitCount_0f7a4_28 : decode cJ6_bitCount_0f7a4 28 = .ok (.iadd, 1) := by decide +kernel
theorem dJ6_bitCount_0f7a4_29 : decode cJ6_bitCount_0f7a4 29 = .ok (.ldc_w 267, 3) := by decide +kernel
theorem dJ6_bitCount_0f7a4_32 : decode cJ6_bitCount_0f7a4 32 = .ok (.iand, 1) := by decide +kernel
theorem dJ6_bitCount_0f7a4_33 : decode cJ6_bitCount_0f7a4 33 = .ok (.istore_n 0, 1) := by decide +kernel
theorem dJ6_bitCount_0f7a4_34 : decode cJ6_bitCount_0f7a4 34 = .ok (.iload_n 0, 1) := by decide +kernel
theorem dJ6_bitCount_0f7a4_35 : decode cJ6_bitCount_0f7a4 35 = .ok (.iload_n 0, 1) := by decide +kernel
theorem dJ6_bitCount_0f7a4_36 : decode cJ6_bitCount_0f7a4 36 = .ok (.bipush 8, 2) := by decide +kernel
theorem dJ6_bitCount_0f7a4_38 : decode cJ6_bitCount_0f7a4 38 = .ok (.iushr, 1) := by decide +kernel
theorem dJ6_bitCount_0f7a4_39 : decode cJ6_bitCount_0f7a4 39 = .ok (.iadd, 1) := by decide +kernel
theorem dJ6_bitCount_0f7a4_40 : decode cJ6_bitCount_0f7a4 40 = .ok (.istore_n 0, 1) := by decide +kernel
theorem dJ6_bitCount_0f7a4_41 : decode cJ6_bitCount_0f7a4 41 = .ok (.iload_n 0, 1) := by decide +kernel
theorem dJ6_bitCount_0f7a4_42 : decode cJ6_bitCount_0f7a4 42 = .ok (.iload_n 0, 1) := by decide +kernel
theorem dJ6_bitCount_0f7a4_43 : decode cJ6_bitCount_0f7a4 43 = .ok (.bipush 16, 2) := by decide +kernel
theorem dJ6_bitCount_0f7a4_45 : decode cJ6_bitCount_0f7a4 45 = .ok (.iushr, 1) := by decide +kernel
theorem dJ6_bitCount_0f7a4_46 : decode cJ6_bitCount_0f7a4 46 = .ok (.iadd, 1) := by decide +kernel
theorem dJ6_bitCount_0f7a4_47 : decode cJ6_bitCount_0f7a4 47 = .ok (.istore_n 0, 1) := by decide +kernel
theorem dJ6_bitCount_0f7a4_48 : decode cJ6_bitCount_0f7a4 48 = .ok (.iload_n 0, 1) := by decide +kernel
theorem dJ6_bitCount_0f7a4_49 : decode cJ6_bitCount_0f7a4 49 = .ok (.bipush 63, 2) := by decide +kernel
theorem dJ6_bitCount_0f7a4_51 : decode cJ6_bitCount_0f7a4 51 = .ok (.iand, 1) := by decide +kernel
theorem dJ6_bitCount_0f7a4_52 : decode cJ6_bitCount_0f7a4 52 = .ok (.ireturn, 1) := by decide +kernel
theorem dJ13_bitCount_95d88_0 : decode cJ13_bitCount_95d88 0 = .ok (.lload_n 0, 1) := by decide +kernel
theorem dJ13_bitCount_95d88_1 : decode cJ13_bitCount_95d88 1 = .ok (.lload_n 0, 1) := by decide +kernel
theorem dJ13_bitCount_95d88_2 : decode cJ13_bitCount_95d88 2 = .ok (.iconst 1, 1) := by decide +kernel
theorem dJ13_bitCount_95d88_3 : decode cJ13_bitCount_95d88 3 = .ok (.lushr, 1) := by decide +kernel
theorem dJ13_bitCount_95d88_4 : decode cJ13_bitCount_95d88 4 = .ok (.ldc2_w 314, 3) := by decide +kernel
theorem dJ13_bitCount_95d88_7 : decode cJ13_bitCount_95d88 7 = .ok (.land, 1) := by decide +kernel
theorem dJ13_bitCount_95d88_8 : decode cJ13_bitCount_95d88 8 = .ok (.lsub, 1) := by decide +kernel
theorem dJ13_bitCount_95d88_9 : decode cJ13_bitCount_95d88 9 = .ok (.lstore_n 0, 1) := by decide +kernel
theorem dJ13_bitCount_95d88_10 : decode cJ13_bitCount_95d88 10 = .ok (.lload_n 0, 1) := by decide +kernel
theorem dJ13_bitCount_95d88_11 : decode cJ13_bitCount_95d88 11 = .ok (.ldc2_w 316, 3) := by decide +kernel
theorem dJ13_bitCount_95d88_14 : decode cJ13_bitCount_95d88 14 = .ok (.land, 1) := by decide +kernel
theorem dJ13_bitCount_95d88_15 : decode cJ13_bitCount_95d88 15 = .ok (.lload_n 0, 1) := by decide +kernel
theorem dJ13_bitCount_95d88_16 : decode cJ13_bitCount_95d88 16 = .ok (.iconst 2, 1) := by decide +kernel
theorem dJ13_bitCount_95d88_17 : decode cJ13_bitCount_95d88 17 = .ok (.lushr, 1) := by decide +kernel
theorem dJ13_bitCount_95d88_18 : decode cJ13_bitCount_95d88 18 = .ok (.ldc2_w 316, 3) := by decide +kernel
theorem dJ13_bitCount_95d88_21 : decode cJ13_bitCount_95d88 21 = .ok (.land, 1) := by decide +kernel
theorem dJ13_bitCount_95d88_22 : decode cJ13_bitCount_95d88 22 = .ok (.ladd, 1) := by decide +kernel
theorem dJ13_bitCount_95d88_23 : decode cJ13_bitCount_95d88 23 = .ok (.lstore_n 0, 1) := by decide +kernel
theorem dJ13_bitCount_95d88_24 : decode cJ13_bitCount_95d88 24 = .ok (.lload_n 0, 1) := by decide +kernel
theorem dJ13_bitCount_95d88_25 : decode cJ13_bitCount_95d88 25 = .ok (.lload_n 0, 1) := by decide +kernel
theorem dJ13_bitCount_95d88_26 : decode cJ13_bitCount_95d88 26 = .ok (.iconst 4, 1) := by decide +kernel
theorem dJ13_bitCount_95d88_27 : decode cJ13_bitCount_95d88 27 = .ok (.lushr, 1) := by decide +kernel
theorem dJ13_bitCount_95d88_28 : decode cJ13_bitCount_95d88 28 = .ok (.ladd, 1) := by decide +kernel
theorem dJ13_bitCount_95d88_29 : decode cJ13_bitCount_95d88 29 = .ok (.ldc2_w 318, 3) := by decide +kernel
theorem dJ13_bitCount_95d88_32 : decode cJ13_bitCount_95d88 32 = .ok (.land, 1) := by decide +kernel
theorem dJ13_bitCount_95d88_33 : decode cJ13_bitCount_95d88 33 = .ok (.lstore_n 0, 1) := by decide +kernel
theorem dJ13_bitCount_95d88_34 : decode cJ13_bitCount_95d88 34 = .ok (.lload_n 0, 1) := by decide +kernel
theorem dJ13_bitCount_95d88_35 : decode cJ13_bitCount_95d88 35 = .ok (.lload_n 0, 1) := by decide +kernel
theorem dJ13_bitCount_95d88_36 : decode cJ13_bitCount_95d88 36 = .ok (.bipush 8, 2) := by decide +kernel
theorem dJ13_bitCount_95d88_38 : decode cJ13_bitCount_95d88 38 = .ok (.lushr, 1) := by decide +kernel
theorem dJ13_bitCount_95d88_39 : decode cJ13_bitCount_95d88 39 = .ok (.ladd, 1) := by decide +kernel
theorem dJ13_bitCount_95d88_40 : decode cJ13_bitCount_95d88 40 = .ok (.lstore_n 0, 1) := by decide +kernel
theorem dJ13_bitCount_95d88_41 : decode cJ13_bitCount_95d88 41 = .ok (.lload_n 0, 1) := by decide +kernel
theorem dJ13_bitCount_95d88_42 : decode cJ13_bitCount_95d88 42 = .ok (.lload_n 0, 1) := by decide +kernel
theorem dJ13_bitCount_95d88_43 : decode cJ13_bitCount_95d88 43 = .ok (.bipush 16, 2) := by decide +kernel
theorem dJ13_bitCount_95d88_45 : decode cJ13_bitCount_95d88 45 = .ok (.lushr, 1) := by decide +kernel
theorem dJ13_bitCount_95d88_46 : decode cJ13_bitCount_95d88 46 = .ok (.ladd, 1) := by decide +kernel
theorem dJ13_bitCount_95d88_47 : decode cJ13_bitCount_95d88 47 = .ok (.lstore_n 0, 1) := by decide +kernel
theorem dJ13_bitCount_95d88_48 : decode cJ13_bitCount_95d88 48 = .ok (.lload_n 0, 1) := by decide +kernel
theorem dJ13_bitCount_95d88_49 : decode cJ13_bitCount_95d88 49 = .ok (.lload_n 0, 1) := by decide +kernel
theorem dJ13_bitCount_95d88_50 : decode cJ13_bitCount_95d88 50 = .ok (.bipush 32, 2) := by decide +kernel
theorem dJ13_bitCount_95d88_52 : decode cJ13_bitCount_95d88 52 = .ok (.lushr, 1) := by decide +kernel
theorem dJ13_bitCount_95d88_53 : decode cJ13_bitCount_95d88 53 = .ok (.ladd, 1) := by decide +kernel
theorem dJ13_bitCount_95d88_54 : decode cJ13_bitCount_95d88 54 = .ok (.lstore_n 0, 1) := by decide +kernel
theorem dJ13_bitCount_95d88_55 : decode cJ13_bitCount_95d88 55 = .ok (.lload_n 0, 1) := by decide +kernel
theorem dJ13_bitCount_95d88_56 : decode cJ13_bitCount_95d88 56 = .ok (.l2i, 1) := by decide +kernel
theorem dJ13_bitCount_95d88_57 : decode cJ13_bitCount_95d88 57 = .ok (.bipush 127, 2) := by decide +kernel
theorem dJ13_bitCount_95d88_59 : decode cJ13_bitCount_95d88 59 = .ok (.iand, 1) := by decide +kernel
theorem dJ13_bitCount_95d88_60 : decode cJ13_bitCount_95d88 60 = .ok (.ireturn, 1) := by decide +kernel
theorem dJ9_abs_0f7a4_0 : decode cJ9_abs_0f7a4 0 = .ok (.iload_n 0, 1) := by decide +kernel
theorem dJ9_abs_0f7a4_1 : decode cJ9_abs_0f7a4 1 = .ok (.ifCond .ge 8, 3) := by decide +kernel
theorem dJ9_abs_0f7a4_4 : decode cJ9_abs_0f7a4 4 = .ok (.iload_n 0, 1) := by decide +kernel
theorem dJ9_abs_0f7a4_5 : decode cJ9_abs_0f7a4 5 = .ok (.ineg, 1) := by decide +kernel
theorem dJ9_abs_0f7a4_6 : decode cJ9_abs_0f7a4 6 = .ok (.goto 4, 3) := by decide +kernel
theorem dJ9_abs_0f7a4_9 : decode cJ9_abs_0f7a4 9 = .ok (.iload_n 0, 1) := by decide +kernel
theorem dJ9_abs_0f7a4_10 : decode cJ9_abs_0f7a4 10 = .ok (.ireturn, 1) := by decide +kernel
theorem dJ9_max_7cf53_0 : decode cJ9_max_7cf53 0 = .ok (.iload_n 0, 1) := by decide +kernel
theorem dJ9_max_7cf53_1 : decode cJ9_max_7cf53 1 = .ok (.iload_n 1, 1) := by decide +kernel
theorem dJ9_max_7cf53_2 : decode cJ9_max_7cf53 2 = .ok (.if_icmp .lt 7, 3) := by decide +kernel
theorem dJ9_max_7cf53_5 : decode cJ9_max_7cf53 5 = .ok (.iload_n 0, 1) := by decide +kernel
theorem dJ9_max_7cf53_6 : decode cJ9_max_7cf53 6 = .ok (.goto 4, 3) := by decide +kernel
theorem dJ9_max_7cf53_9 : decode cJ9_max_7cf53 9 = .ok (.iload_n 1, 1) := by decide +kernel
theorem dJ9_max_7cf53_10 : decode cJ9_max_7cf53 10 = .ok (.ireturn, 1) := by decide +kernel
theorem dJ9_min_7cf53_0 : decode cJ9_min_7cf53 0 = .ok (.iload_n 0, 1) := by decide +kernel
theorem dJ9_min_7cf53_1 : decode cJ9_min_7cf53 1 = .ok (.iload_n 1, 1) := by decide +kernel
theorem dJ9_min_7cf53_2 : decode cJ9_min_7cf53 2 = .ok (.if_icmp .gt 7, 3) := by decide +kernel
theorem dJ9_min_7cf53_5 : decode cJ9_min_7cf53 5 = .ok (.iload_n 0, 1) := by decide +kernel
theorem dJ9_min_7cf53_6 : decode cJ9_min_7cf53 6 = .ok (.goto 4, 3) := by decide +kernel
theorem dJ9_min_7cf53_9 : decode cJ9_min_7cf53 9 = .ok (.iload_n 1, 1) := by decide +kernel
theorem dJ9_min_7cf53_10 : decode cJ9_min_7cf53 10 = .ok (.ireturn, 1) := by decide +kernel
theorem dJ0_length_8abf5_0 : decode cJ0_length_8abf5 0 = .ok (.aload_n 0, 1) := by decide +kernel
theorem dJ0_length_8abf5_1 : decode cJ0_length_8abf5 1 = .ok (.getfield 9, 3) := by decide +kernel
theorem dJ0_length_8abf5_4 : decode cJ0_length_8abf5 4 = .ok (.arraylength, 1) := by decide +kernel
theorem dJ0_length_8abf5_5 : decode cJ0_length_8abf5 5 = .ok (.aload_n 0, 1) := by decide +kernel
theorem dJ0_length_8abf5_6 : decode cJ0_length_8abf5 6 = .ok (.invokevirtual 335, 3) := by decide +kernel
theorem dJ0_length_8abf5_9 : decode cJ0_length_8abf5 9 = .ok (.ishr, 1) := by decide +kernel
theorem dJ0_length_8abf5_10 : decode cJ0_length_8abf5 10 = .ok (.ireturn, 1) := by decide +kernel
theorem dJ0_charAt_5068e_0 : decode cJ0_charAt_5068e 0 = .ok (.aload_n 0, 1) := by decide +kernel
theorem dJ0_charAt_5068e_1 : decode cJ0_charAt_5068e 1 = .ok (.invokevirtual 492, 3) := by decide +kernel
theorem dJ0_charAt_5068e_4 : decode cJ0_charAt_5068e 4 = .ok (.ifCond .eq 12, 3) := by decide +kernel
theorem dJ0_charAt_5068e_7 : decode cJ0_charAt_5068e 7 = .ok (.aload_n 0, 1) := by decide +kernel
theorem dJ0_charAt_5068e_8 : decode cJ0_charAt_5068e 8 = .ok (.getfield 9, 3) := by decide +kernel
theorem dJ0_charAt_5068e_11 : decode cJ0_charAt_5068e 11 = .ok (.iload_n 1, 1) := by decide +kernel
theorem dJ0_charAt_5068e_12 : decode cJ0_charAt_5068e 12 = .ok (.invokestatic 495, 3) := by decide +kernel
theorem dJ0_charAt_5068e_15 : decode cJ0_charAt_5068e 15 = .ok (.ireturn, 1) := by decide +kernel
theorem dJ0_charAt_5068e_16 : decode cJ0_charAt_5068e 16 = .ok (.aload_n 0, 1) := by decide +kernel
theorem dJ0_charAt_5068e_17 : decode cJ0_charAt_5068e 17 = .ok (.getfield 9, 3) := by decide +kernel
theorem dJ0_charAt_5068e_20 : decode cJ0_charAt_5068e 20 = .ok (.iload_n 1, 1) := by decide +kernel
theorem dJ0_charAt_5068e_21 : decode cJ0_charAt_5068e 21 = .ok (.invokestatic 498, 3) := by decide +kernel
theorem dJ0_charAt_5068e_24 : decode cJ0_charAt_5068e 24 = .ok (.ireturn, 1) := by decide +kernel
theorem dJ0_coder_7d493_0 : decode cJ0_coder_7d493 0 = .ok (.getstatic 38, 3) := by decide +kernel
theorem dJ0_coder_7d493_3 : decode cJ0_coder_7d493 3 = .ok (.ifCond .eq 10, 3) := by decide +kernel
theorem dJ0_coder_7d493_6 : decode cJ0_coder_7d493 6 = .ok (.aload_n 0, 1) := by decide +kernel
theorem dJ0_coder_7d493_7 : decode cJ0_coder_7d493 7 = .ok (.getfield 15, 3) := by decide +kernel
theorem dJ0_coder_7d493_10 : decode cJ0_coder_7d493 10 = .ok (.goto 4, 3) := by decide +kernel
theorem dJ0_coder_7d493_13 : decode cJ0_coder_7d493 13 = .ok (.iconst 1, 1) := by decide +kernel
theorem dJ0_coder_7d493_14 : decode cJ0_coder_7d493 14 = .ok (.ireturn, 1) := by decide +kernel
theorem dJ0_isLatin1_aae02_0 : decode cJ0_isLatin1_aae02 0 = .ok (.getstatic 38, 3) := by decide +kernel
theorem dJ0_isLatin1_aae02_3 : decode cJ0_isLatin1_aae02 3 = .ok (.ifCond .eq 14, 3) := by decide +kernel
theorem dJ0_isLatin1_aae02_6 : decode cJ0_isLatin1_aae02 6 = .ok (.aload_n 0, 1) := by decide +kernel
theorem dJ0_isLatin1_aae02_7 : decode cJ0_isLatin1_aae02 7 = .ok (.getfield 15, 3) := by decide +kernel
theorem dJ0_isLatin1_aae02_10 : decode cJ0_isLatin1_aae02 10 = .ok (.ifCond .ne 7, 3) := by decide +kernel
theorem dJ0_isLatin1_aae02_13 : decode cJ0_isLatin1_aae02 13 = .ok (.iconst 1, 1) := by decide +kernel
theorem dJ0_isLatin1_aae02_14 : decode cJ0_isLatin1_aae02 14 = .ok (.goto 4, 3) := by decide +kernel
theorem dJ0_isLatin1_aae02_17 : decode cJ0_isLatin1_aae02 17 = .ok (.iconst 0, 1) := by decide +kernel
theorem dJ0_isLatin1_aae02_18 : decode cJ0_isLatin1_aae02 18 = .ok (.ireturn, 1) := by decide +kernel
theorem dJ0_checkIndex_df160_0 : decode cJ0_checkIndex_df160 0 = .ok (.iload_n 0, 1) := by decide +kernel
theorem dJ0_checkIndex_df160_1 : decode cJ0_checkIndex_df160 1 = .ok (.iload_n 1, 1) := by decide +kernel
theorem dJ0_checkIndex_df160_2 : decode cJ0_checkIndex_df160 2 = .ok (.getstatic 1053, 3) := by decide +kernel
theorem dJ0_checkIndex_df160_5 : decode cJ0_checkIndex_df160 5 = .ok (.invokestatic 1059, 3) := by decide +kernel
theorem dJ0_checkIndex_df160_8 : decode cJ0_checkIndex_df160 8 = .ok (.pop, 1) := by decide +kernel
theorem dJ0_checkIndex_df160_9 : decode cJ0_checkIndex_df160 9 = .ok (.return_, 1) := by decide +kernel
theorem dJ1_charAt_3b067_0 : decode cJ1_charAt_3b067 0 = .ok (.iload_n 1, 1) := by decide +kernel
theorem dJ1_charAt_3b067_1 : decode cJ1_charAt_3b067 1 = .ok (.aload_n 0, 1) := by decide +kernel
theorem dJ1_charAt_3b067_2 : decode cJ1_charAt_3b067 2 = .ok (.arraylength, 1) := by decide +kernel
theorem dJ1_charAt_3b067_3 : decode cJ1_charAt_3b067 3 = .ok (.invokestatic 9, 3) := by decide +kernel
theorem dJ1_charAt_3b067_6 : decode cJ1_charAt_3b067 6 = .ok (.aload_n 0, 1) := by decide +kernel
theorem dJ1_charAt_3b067_7 : decode cJ1_charAt_3b067 7 = .ok (.iload_n 1, 1) := by decide +kernel
theorem dJ1_charAt_3b067_8 : decode cJ1_charAt_3b067 8 = .ok (.baload, 1) := by decide +kernel
theorem dJ1_charAt_3b067_9 : decode cJ1_charAt_3b067 9 = .ok (.sipush 255, 3) := by decide +kernel
theorem dJ1_charAt_3b067_12 : decode cJ1_charAt_3b067 12 = .ok (.iand, 1) := by decide +kernel
theorem dJ1_charAt_3b067_13 : decode cJ1_charAt_3b067 13 = .ok (.i2c, 1) := by decide +kernel
theorem dJ1_charAt_3b067_14 : decode cJ1_charAt_3b067 14 = .ok (.ireturn, 1) := by decide +kernel
theorem dJ2_getChar_3b067_0 : decode cJ2_getChar_3b067 0 = .ok (.getstatic 44, 3) := by decide +kernel
theorem dJ2_getChar_3b067_3 : decode cJ2_getChar_3b067 3 = .ok (.ifCond .ne 25, 3) := by decide +kernel
theorem dJ2_getChar_3b067_6 : decode cJ2_getChar_3b067 6 = .ok (.iload_n 1, 1) := by decide +kernel
theorem dJ2_getChar_3b067_7 : decode cJ2_getChar_3b067 7 = .ok (.ifCond .lt 11, 3) := by decide +kernel
theorem dJ2_getChar_3b067_10 : decode cJ2_getChar_3b067 10 = .ok (.iload_n 1, 1) := by decide +kernel
theorem dJ2_getChar_3b067_11 : decode cJ2_getChar_3b067 11 = .ok (.aload_n 0, 1) := by decide +kernel
theorem dJ2_getChar_3b067_12 : decode cJ2_getChar_3b067 12 = .ok (.invokestatic 48, 3) := by decide +kernel
theorem dJ2_getChar_3b067_15 : decode cJ2_getChar_3b067 15 = .ok (.if_icmp .lt 13, 3) := by decide +kernel
theorem dJ2_getChar_3b067_18 : decode cJ2_getChar_3b067 18 = .ok (.new 52, 3) := by decide +kernel
theorem dJ2_getChar_3b067_21 : decode cJ2_getChar_3b067 21 = .ok (.dup, 1) := by decide +kernel
theorem dJ2_getChar_3b067_22 : decode cJ2_getChar_3b067 22 = .ok (.ldc 54, 2) := by decide +kernel
theorem dJ2_getChar_3b067_24 : decode cJ2_getChar_3b067 24 = .ok (.invokespecial 56, 3) := by decide +kernel
theorem dJ2_getChar_3b067_27 : decode cJ2_getChar_3b067 27 = .ok (.athrow, 1) := by decide +kernel
theorem dJ2_getChar_3b067_28 : decode cJ2_getChar_3b067 28 = .ok (.iload_n 1, 1) := by decide +kernel
theorem dJ2_getChar_3b067_29 : decode cJ2_getChar_3b067 29 = .ok (.iconst 1, 1) := by decide +kernel
theorem dJ2_getChar_3b067_30 : decode cJ2_getChar_3b067 30 = .ok (.ishl, 1) := by decide +kernel
theorem dJ2_getChar_3b067_31 : decode cJ2_getChar_3b067 31 = .ok (.istore_n 1, 1) := by decide +kernel
theorem dJ2_getChar_3b067_32 : decode cJ2_getChar_3b067 32 = .ok (.aload_n 0, 1) := by decide +kernel
theorem dJ2_getChar_3b067_33 : decode cJ2_getChar_3b067 33 = .ok (.iload_n 1, 1) := by decide +kernel
theorem dJ2_getChar_3b067_34 : decode cJ2_getChar_3b067 34 = .ok (.iinc 1 1, 3) := by decide +kernel
theorem dJ2_getChar_3b067_37 : decode cJ2_getChar_3b067 37 = .ok (.baload, 1) := by decide +kernel
theorem dJ2_getChar_3b067_38 : decode cJ2_getChar_3b067 38 = .ok (.sipush 255, 3) := by decide +kernel
theorem dJ2_getChar_3b067_41 : decode cJ2_getChar_3b067 41 = .ok (.iand, 1) := by decide +kernel
theorem dJ2_getChar_3b067_42 : decode cJ2_getChar_3b067 42 = .ok (.getstatic 59, 3) := by decide +kernel
theorem dJ2_getChar_3b067_45 : decode cJ2_getChar_3b067 45 = .ok (.ishl, 1) := by decide +kernel
theorem dJ2_getChar_3b067_46 : decode cJ2_getChar_3b067 46 = .ok (.aload_n 0, 1) := by decide +kernel
theorem dJ2_getChar_3b067_47 : decode cJ2_getChar_3b067 47 = .ok (.iload_n 1, 1) := by decide +kernel
theorem dJ2_getChar_3b067_48 : decode cJ2_getChar_3b067 48 = .ok (.baload, 1) := by decide +kernel
theorem dJ2_getChar_3b067_49 : decode cJ2_getChar_3b067 49 = .ok (.sipush 255, 3) := by decide +kernel
theorem dJ2_getChar_3b067_52 : decode cJ2_getChar_3b067 52 = .ok (.iand, 1) := by decide +kernel
theorem dJ2_getChar_3b067_53 : decode cJ2_getChar_3b067 53 = .ok (.getstatic 63, 3) := by decide +kernel
theorem dJ2_getChar_3b067_56 : decode cJ2_getChar_3b067 56 = .ok (.ishl, 1) := by decide +kernel
theorem dJ2_getChar_3b067_57 : decode cJ2_getChar_3b067 57 = .ok (.ior, 1) := by decide +kernel
theorem dJ2_getChar_3b067_58 : decode cJ2_getChar_3b067 58 = .ok (.i2c, 1) := by decide +kernel
theorem dJ2_getChar_3b067_59 : decode cJ2_getChar_3b067 59 = .ok (.ireturn, 1) := by decide +kernel
theorem dJ2_length_9d52b_0 : decode cJ2_length_9d52b 0 = .ok (.aload_n 0, 1) := by decide +kernel
theorem dJ2_length_9d52b_1 : decode cJ2_length_9d52b 1 = .ok (.arraylength, 1) := by decide +kernel
theorem dJ2_length_9d52b_2 : decode cJ2_length_9d52b 2 = .ok (.iconst 1, 1) := by decide +kernel
theorem dJ2_length_9d52b_3 : decode cJ2_length_9d52b 3 = .ok (.ishr, 1) := by decide +kernel
theorem dJ2_length_9d52b_4 : decode cJ2_length_9d52b 4 = .ok (.ireturn, 1) := by decide +kernel
theorem dJ2_charAt_3b067_0 : decode cJ2_charAt_3b067 0 = .ok (.iload_n 1, 1) := by decide +kernel
theorem dJ2_charAt_3b067_1 : decode cJ2_charAt_3b067 1 = .ok (.aload_n 0, 1) := by decide +kernel
theorem dJ2_charAt_3b067_2 : decode cJ2_charAt_3b067 2 = .ok (.invokestatic 67, 3) := by decide +kernel
theorem dJ2_charAt_3b067_5 : decode cJ2_charAt_3b067 5 = .ok (.aload_n 0, 1) := by decide +kernel
theorem dJ2_charAt_3b067_6 : decode cJ2_charAt_3b067 6 = .ok (.iload_n 1, 1) := by decide +kernel
theorem dJ2_charAt_3b067_7 : decode cJ2_charAt_3b067 7 = .ok (.invokestatic 71, 3) := by decide +kernel
theorem dJ2_charAt_3b067_10 : decode cJ2_charAt_3b067 10 = .ok (.ireturn, 1) := by decide +kernel
theorem dJ2_checkIndex_2214a_0 : decode cJ2_checkIndex_2214a 0 = .ok (.iload_n 0, 1) := by decide +kernel
theorem dJ2_checkIndex_2214a_1 : decode cJ2_checkIndex_2214a 1 = .ok (.aload_n 1, 1) := by decide +kernel
theorem dJ2_checkIndex_2214a_2 : decode cJ2_checkIndex_2214a 2 = .ok (.invokestatic 48, 3) := by decide +kernel
theorem dJ2_checkIndex_2214a_5 : decode cJ2_checkIndex_2214a 5 = .ok (.invokestatic 414, 3) := by decide +kernel
theorem dJ2_checkIndex_2214a_8 : decode cJ2_checkIndex_2214a 8 = .ok (.return_, 1) := by decide +kernel
theorem dJ3_checkIndex_8e157_0 : decode cJ3_checkIndex_8e157 0 = .ok (.iload_n 0, 1) := by decide +kernel
theorem dJ3_checkIndex_8e157_1 : decode cJ3_checkIndex_8e157 1 = .ok (.ifCond .lt 8, 3) := by decide +kernel
theorem dJ3_checkIndex_8e157_4 : decode cJ3_checkIndex_8e157 4 = .ok (.iload_n 0, 1) := by decide +kernel
theorem dJ3_checkIndex_8e157_5 : decode cJ3_checkIndex_8e157 5 = .ok (.iload_n 1, 1) := by decide +kernel
theorem dJ3_checkIndex_8e157_6 : decode cJ3_checkIndex_8e157 6 = .ok (.if_icmp .lt 10, 3) := by decide +kernel
theorem dJ3_checkIndex_8e157_9 : decode cJ3_checkIndex_8e157 9 = .ok (.aload_n 2, 1) := by decide +kernel
theorem dJ3_checkIndex_8e157_10 : decode cJ3_checkIndex_8e157 10 = .ok (.iload_n 0, 1) := by decide +kernel
theorem dJ3_checkIndex_8e157_11 : decode cJ3_checkIndex_8e157 11 = .ok (.iload_n 1, 1) := by decide +kernel
theorem dJ3_checkIndex_8e157_12 : decode cJ3_checkIndex_8e157 12 = .ok (.invokestatic 95, 3) := by decide +kernel
theorem dJ3_checkIndex_8e157_15 : decode cJ3_checkIndex_8e157 15 = .ok (.athrow, 1) := by decide +kernel
theorem dJ3_checkIndex_8e157_16 : decode cJ3_checkIndex_8e157 16 = .ok (.iload_n 0, 1) := by decide +kernel
theorem dJ3_checkIndex_8e157_17 : decode cJ3_checkIndex_8e157 17 = .ok (.ireturn, 1) := by decide +kernel
theorem dL_law_0 : decode cL_law 0 = .ok (.new 7, 3) := by decide +kernel
theorem dL_law_3 : decode cL_law 3 = .ok (.dup, 1) := by decide +kernel
theorem dL_law_4 : decode cL_law 4 = .ok (.invokespecial 9, 3) := by decide +kernel
theorem dL_law_7 : decode cL_law 7 = .ok (.astore_n 1, 1) := by decide +kernel
theorem dL_law_8 : decode cL_law 8 = .ok (.new 10, 3) := by decide +kernel
theorem dL_law_11 : decode cL_law 11 = .ok (.dup, 1) := by decide +kernel
theorem dL_law_12 : decode cL_law 12 = .ok (.invokespecial 12, 3) := by decide +kernel
theorem dL_law_15 : decode cL_law 15 = .ok (.astore_n 2, 1) := by decide +kernel
theorem dL_law_16 : decode cL_law 16 = .ok (.iconst 0, 1) := by decide +kernel
theorem dL_law_17 : decode cL_law 17 = .ok (.istore_n 3, 1) := by decide +kernel
theorem dL_law_18 : decode cL_law 18 = .ok (.iload_n 3, 1) := by decide +kernel
theorem dL_law_19 : decode cL_law 19 = .ok (.aload_n 0, 1) := by decide +kernel
theorem dL_law_20 : decode cL_law 20 = .ok (.arraylength, 1) := by decide +kernel
theorem dL_law_21 : decode cL_law 21 = .ok (.bipush 6, 2) := by decide +kernel
theorem dL_law_23 : decode cL_law 23 = .ok (.isub, 1) := by decide +kernel
theorem dL_law_24 : decode cL_law 24 = .ok (.if_icmp .gt 1080, 3) := by decide +kernel
theorem dL_law_27 : decode cL_law 27 = .ok (.aload_n 0, 1) := by decide +kernel
theorem dL_law_28 : decode cL_law 28 = .ok (.iload_n 3, 1) := by decide +kernel
theorem dL_law_29 : decode cL_law 29 = .ok (.iaload, 1) := by decide +kernel
theorem dL_law_30 : decode cL_law 30 = .ok (.bipush 63, 2) := by decide +kernel
theorem dL_law_32 : decode cL_law 32 = .ok (.iand, 1) := by decide +kernel
theorem dL_law_33 : decode cL_law 33 = .ok (.tableswitch 1065 0 33 #[151, 184, 207, 230, 293, 326, 359, 372, 395, 408, 421, 464, 507, 540, 563, 586, 609, 632, 645, 678, 721, 744, 777, 820, 833, 856, 879, 892, 935, 959, 982, 1005, 1028, 1051], 151) := by decide +kernel
theorem dL_law_184 : decode cL_law 184 = .ok (.aload_n 1, 1) := by decide +kernel
theorem dL_law_185 : decode cL_law 185 = .ok (.aload_n 0, 1) := by decide +kernel
theorem dL_law_186 : decode cL_law 186 = .ok (.iload_n 3, 1) := by decide +kernel
theorem dL_law_187 : decode cL_law 187 = .ok (.iconst 1, 1) := by decide +kernel
theorem dL_law_188 : decode cL_law 188 = .ok (.iadd, 1) := by decide +kernel
theorem dL_law_189 : decode cL_law 189 = .ok (.iaload, 1) := by decide +kernel
theorem dL_law_190 : decode cL_law 190 = .ok (.aload_n 0, 1) := by decide +kernel
theorem dL_law_191 : decode cL_law 191 = .ok (.iload_n 3, 1) := by decide +kernel
theorem dL_law_192 : decode cL_law 192 = .ok (.iconst 2, 1) := by decide +kernel
theorem dL_law_193 : decode cL_law 193 = .ok (.iadd, 1) := by decide +kernel
theorem dL_law_194 : decode cL_law 194 = .ok (.iaload, 1) := by decide +kernel
theorem dL_law_195 : decode cL_law 195 = .ok (.invokevirtual 13, 3) := by decide +kernel
theorem dL_law_198 : decode cL_law 198 = .ok (.aload_n 2, 1) := by decide +kernel
theorem dL_law_199 : decode cL_law 199 = .ok (.aload_n 0, 1) := by decide +kernel
theorem dL_law_200 : decode cL_law 200 = .ok (.iload_n 3, 1) := by decide +kernel
theorem dL_law_201 : decode cL_law 201 = .ok (.iconst 1, 1) := by decide +kernel
theorem dL_law_202 : decode cL_law 202 = .ok (.iadd, 1) := by decide +kernel
theorem dL_law_203 : decode cL_law 203 = .ok (.iaload, 1) := by decide +kernel
theorem dL_law_204 : decode cL_law 204 = .ok (.aload_n 0, 1) := by decide +kernel
theorem dL_law_205 : decode cL_law 205 = .ok (.iload_n 3, 1) := by decide +kernel
theorem dL_law_206 : decode cL_law 206 = .ok (.iconst 2, 1) := by decide +kernel
theorem dL_law_207 : decode cL_law 207 = .ok (.iadd, 1) := by decide +kernel
theorem dL_law_208 : decode cL_law 208 = .ok (.iaload, 1) := by decide +kernel
theorem dL_law_209 : decode cL_law 209 = .ok (.invokevirtual 17, 3) := by decide +kernel
theorem dL_law_212 : decode cL_law 212 = .ok (.if_icmp .eq 886, 3) := by decide +kernel
theorem dL_law_215 : decode cL_law 215 = .ok (.iconst 0, 1) := by decide +kernel
theorem dL_law_216 : decode cL_law 216 = .ok (.ireturn, 1) := by decide +kernel
theorem dL_law_217 : decode cL_law 217 = .ok (.aload_n 1, 1) := by decide +kernel
theorem dL_law_218 : decode cL_law 218 = .ok (.aload_n 0, 1) := by decide +kernel
theorem dL_law_219 : decode cL_law 219 = .ok (.iload_n 3, 1) := by decide +kernel
theorem dL_law_220 : decode cL_law 220 = .ok (.iconst 1, 1) := by decide +kernel
theorem dL_law_221 : decode cL_law 221 = .ok (.iadd, 1) := by decide +kernel
theorem dL_law_222 : decode cL_law 222 = .ok (.iaload, 1) := by decide +kernel
theorem dL_law_223 : decode cL_law 223 = .ok (.invokevirtual 18, 3) := by decide +kernel
theorem dL_law_226 : decode cL_law 226 = .ok (.aload_n 2, 1) := by decide +kernel
theorem dL_law_227 : decode cL_law 227 = .ok (.aload_n 0, 1) := by decide +kernel
theorem dL_law_228 : decode cL_law 228 = .ok (.iload_n 3, 1) := by decide +kernel
theorem dL_law_229 : decode cL_law 229 = .ok (.iconst 1, 1) := by decide +kernel
theorem dL_law_230 : decode cL_law 230 = .ok (.iadd, 1) := by decide +kernel
theorem dL_law_231 : decode cL_law 231 = .ok (.iaload, 1) := by decide +kernel
theorem dL_law_232 : decode cL_law 232 = .ok (.invokevirtual 22, 3) := by decide +kernel
theorem dL_law_235 : decode cL_law 235 = .ok (.if_icmp .eq 863, 3) := by decide +kernel
theorem dL_law_238 : decode cL_law 238 = .ok (.iconst 0, 1) := by decide +kernel
theorem dL_law_239 : decode cL_law 239 = .ok (.ireturn, 1) := by decide +kernel
theorem dL_law_240 : decode cL_law 240 = .ok (.aload_n 1, 1) := by decide +kernel
theorem dL_law_241 : decode cL_law 241 = .ok (.aload_n 0, 1) := by decide +kernel
theorem dL_law_242 : decode cL_law 242 = .ok (.iload_n 3, 1) := by decide +kernel
theorem dL_law_243 : decode cL_law 243 = .ok (.iconst 1, 1) := by decide +kernel
theorem dL_law_244 : decode cL_law 244 = .ok (.iadd, 1) := by decide +kernel
theorem dL_law_245 : decode cL_law 245 = .ok (.iaload, 1) := by decide +kernel
theorem dL_law_246 : decode cL_law 246 = .ok (.invokevirtual 23, 3) := by decide +kernel
theorem dL_law_249 : decode cL_law 249 = .ok (.aload_n 2, 1) := by decide +kernel
theorem dL_law_250 : decode cL_law 250 = .ok (.aload_n 0, 1) := by decide +kernel
theorem dL_law_251 : decode cL_law 251 = .ok (.iload_n 3, 1) := by decide +kernel
theorem dL_law_252 : decode cL_law 252 = .ok (.iconst 1, 1) := by decide +kernel
theorem dL_law_253 : decode cL_law 253 = .ok (.iadd, 1) := by decide +kernel
theorem dL_law_254 : decode cL_law 254 = .ok (.iaload, 1) := by decide +kernel
theorem dL_law_255 : decode cL_law 255 = .ok (.invokevirtual 26, 3) := by decide +kernel
theorem dL_law_258 : decode cL_law 258 = .ok (.if_icmp .eq 840, 3) := by decide +kernel
theorem dL_law_261 : decode cL_law 261 = .ok (.iconst 0, 1) := by decide +kernel
theorem dL_law_262 : decode cL_law 262 = .ok (.ireturn, 1) := by decide +kernel
theorem dL_law_263 : decode cL_law 263 = .ok (.aload_n 1, 1) := by decide +kernel
theorem dL_law_264 : decode cL_law 264 = .ok (.aload_n 0, 1) := by decide +kernel
theorem dL_law_265 : decode cL_law 265 = .ok (.iload_n 3, 1) := by decide +kernel
theorem dL_law_266 : decode cL_law 266 = .ok (.iconst 1, 1) := by decide +kernel
theorem dL_law_267 : decode cL_law 267 = .ok (.iadd, 1) := by decide +kernel
theorem dL_law_268 : decode cL_law 268 = .ok (.iaload, 1) := by decide +kernel
theorem dL_law_269 : decode cL_law 269 = .ok (.aload_n 0, 1) := by decide +kernel
theorem dL_law_270 : decode cL_law 270 = .ok (.iload_n 3, 1) := by decide +kernel
theorem dL_law_271 : decode cL_law 271 = .ok (.iconst 2, 1) := by decide +kernel
theorem dL_law_272 : decode cL_law 272 = .ok (.iadd, 1) := by decide +kernel
theorem dL_law_273 : decode cL_law 273 = .ok (.iaload, 1) := by decide +kernel
theorem dL_law_274 : decode cL_law 274 = .ok (.aload_n 0, 1) := by decide +kernel
theorem dL_law_275 : decode cL_law 275 = .ok (.iload_n 3, 1) := by decide +kernel
theorem dL_law_276 : decode cL_law 276 = .ok (.iconst 3, 1) := by decide +kernel
theorem dL_law_277 : decode cL_law 277 = .ok (.iadd, 1) := by decide +kernel
theorem dL_law_278 : decode cL_law 278 = .ok (.iaload, 1) := by decide +kernel
theorem dL_law_279 : decode cL_law 279 = .ok (.aload_n 0, 1) := by decide +kernel
theorem dL_law_280 : decode cL_law 280 = .ok (.iload_n 3, 1) := by decide +kernel
theorem dL_law_281 : decode cL_law 281 = .ok (.iconst 4, 1) := by decide +kernel
theorem dL_law_282 : decode cL_law 282 = .ok (.iadd, 1) := by decide +kernel
theorem dL_law_283 : decode cL_law 283 = .ok (.iaload, 1) := by decide +kernel
theorem dL_law_284 : decode cL_law 284 = .ok (.aload_n 0, 1) := by decide +kernel
theorem dL_law_285 : decode cL_law 285 = .ok (.iload_n 3, 1) := by decide +kernel
theorem dL_law_286 : decode cL_law 286 = .ok (.iconst 5, 1) := by decide +kernel
theorem dL_law_287 : decode cL_law 287 = .ok (.iadd, 1) := by decide +kernel
theorem dL_law_288 : decode cL_law 288 = .ok (.iaload, 1) := by decide +kernel
theorem dL_law_289 : decode cL_law 289 = .ok (.invokevirtual 27, 3) := by decide +kernel
theorem dL_law_292 : decode cL_law 292 = .ok (.aload_n 2, 1) := by decide +kernel
theorem dL_law_293 : decode cL_law 293 = .ok (.aload_n 0, 1) := by decide +kernel
theorem dL_law_294 : decode cL_law 294 = .ok (.iload_n 3, 1) := by decide +kernel
theorem dL_law_295 : decode cL_law 295 = .ok (.iconst 1, 1) := by decide +kernel
theorem dL_law_296 : decode cL_law 296 = .ok (.iadd, 1) := by decide +kernel
theorem dL_law_297 : decode cL_law 297 = .ok (.iaload, 1) := by decide +kernel
theorem dL_law_298 : decode cL_law 298 = .ok (.aload_n 0, 1) := by decide +kernel
theorem dL_law_299 : decode cL_law 299 = .ok (.iload_n 3, 1) := by decide +kernel
theorem dL_law_300 : decode cL_law 300 = .ok (.iconst 2, 1) := by decide +kernel
theorem dL_law_301 : decode cL_law 301 = .ok (.iadd, 1) := by decide +kernel
theorem dL_law_302 : decode cL_law 302 = .ok (.iaload, 1) := by decide +kernel
theorem dL_law_303 : decode cL_law 303 = .ok (.aload_n 0, 1) := by decide +kernel
theorem dL_law_304 : decode cL_law 304 = .ok (.iload_n 3, 1) := by decide +kernel
theorem dL_law_305 : decode cL_law 305 = .ok (.iconst 3, 1) := by decide +kernel
theorem dL_law_306 : decode cL_law 306 = .ok (.iadd, 1) := by decide +kernel
theorem dL_law_307 : decode cL_law 307 = .ok (.iaload, 1) := by decide +kernel
theorem dL_law_308 : decode cL_law 308 = .ok (.aload_n 0, 1) := by decide +kernel
theorem dL_law_309 : decode cL_law 309 = .ok (.iload_n 3, 1) := by decide +kernel
theorem dL_law_310 : decode cL_law 310 = .ok (.iconst 4, 1) := by decide +kernel
theorem dL_law_311 : decode cL_law 311 = .ok (.iadd, 1) := by decide +kernel
theorem dL_law_312 : decode cL_law 312 = .ok (.iaload, 1) := by decide +kernel
theorem dL_law_313 : decode cL_law 313 = .ok (.aload_n 0, 1) := by decide +kernel
theorem dL_law_314 : decode cL_law 314 = .ok (.iload_n 3, 1) := by decide +kernel
theorem dL_law_315 : decode cL_law 315 = .ok (.iconst 5, 1) := by decide +kernel
theorem dL_law_316 : decode cL_law 316 = .ok (.iadd, 1) := by decide +kernel
theorem dL_law_317 : decode cL_law 317 = .ok (.iaload, 1) := by decide +kernel
theorem dL_law_318 : decode cL_law 318 = .ok (.invokevirtual 31, 3) := by decide +kernel
theorem dL_law_321 : decode cL_law 321 = .ok (.if_icmp .eq 777, 3) := by decide +kernel
theorem dL_law_324 : decode cL_law 324 = .ok (.iconst 0, 1) := by decide +kernel
theorem dL_law_325 : decode cL_law 325 = .ok (.ireturn, 1) := by decide +kernel
theorem dL_law_326 : decode cL_law 326 = .ok (.aload_n 1, 1) := by decide +kernel
theorem dL_law_327 : decode cL_law 327 = .ok (.aload_n 0, 1) := by decide +kernel
theorem dL_law_328 : decode cL_law 328 = .ok (.iload_n 3, 1) := by decide +kernel
theorem dL_law_329 : decode cL_law 329 = .ok (.iconst 1, 1) := by decide +kernel
theorem dL_law_330 : decode cL_law 330 = .ok (.iadd, 1) := by decide +kernel
theorem dL_law_331 : decode cL_law 331 = .ok (.iaload, 1) := by decide +kernel
theorem dL_law_332 : decode cL_law 332 = .ok (.aload_n 0, 1) := by decide +kernel
theorem dL_law_333 : decode cL_law 333 = .ok (.iload_n 3, 1) := by decide +kernel
theorem dL_law_334 : decode cL_law 334 = .ok (.iconst 2, 1) := by decide +kernel
theorem dL_law_335 : decode cL_law 335 = .ok (.iadd, 1) := by decide +kernel
theorem dL_law_336 : decode cL_law 336 = .ok (.iaload, 1) := by decide +kernel
theorem dL_law_337 : decode cL_law 337 = .ok (.invokevirtual 32, 3) := by decide +kernel
theorem dL_law_340 : decode cL_law 340 = .ok (.aload_n 2, 1) := by decide +kernel
theorem dL_law_341 : decode cL_law 341 = .ok (.aload_n 0, 1) := by decide +kernel
theorem dL_law_342 : decode cL_law 342 = .ok (.iload_n 3, 1) := by decide +kernel
theorem dL_law_343 : decode cL_law 343 = .ok (.iconst 1, 1) := by decide +kernel
theorem dL_law_344 : decode cL_law 344 = .ok (.iadd, 1) := by decide +kernel
theorem dL_law_345 : decode cL_law 345 = .ok (.iaload, 1) := by decide +kernel
theorem dL_law_346 : decode cL_law 346 = .ok (.aload_n 0, 1) := by decide +kernel
theorem dL_law_347 : decode cL_law 347 = .ok (.iload_n 3, 1) := by decide +kernel
theorem dL_law_348 : decode cL_law 348 = .ok (.iconst 2, 1) := by decide +kernel
theorem dL_law_349 : decode cL_law 349 = .ok (.iadd, 1) := by decide +kernel
theorem dL_law_350 : decode cL_law 350 = .ok (.iaload, 1) := by decide +kernel
theorem dL_law_351 : decode cL_law 351 = .ok (.invokevirtual 35, 3) := by decide +kernel
theorem dL_law_354 : decode cL_law 354 = .ok (.if_icmp .eq 744, 3) := by decide +kernel
theorem dL_law_357 : decode cL_law 357 = .ok (.iconst 0, 1) := by decide +kernel
theorem dL_law_358 : decode cL_law 358 = .ok (.ireturn, 1) := by decide +kernel
theorem dL_law_359 : decode cL_law 359 = .ok (.aload_n 1, 1) := by decide +kernel
theorem dL_law_360 : decode cL_law 360 = .ok (.aload_n 0, 1) := by decide +kernel
theorem dL_law_361 : decode cL_law 361 = .ok (.iload_n 3, 1) := by decide +kernel
theorem dL_law_362 : decode cL_law 362 = .ok (.iconst 1, 1) := by decide +kernel
theorem dL_law_363 : decode cL_law 363 = .ok (.iadd, 1) := by decide +kernel
theorem dL_law_364 : decode cL_law 364 = .ok (.iaload, 1) := by decide +kernel
theorem dL_law_365 : decode cL_law 365 = .ok (.aload_n 0, 1) := by decide +kernel
theorem dL_law_366 : decode cL_law 366 = .ok (.iload_n 3, 1) := by decide +kernel
theorem dL_law_367 : decode cL_law 367 = .ok (.iconst 2, 1) := by decide +kernel
theorem dL_law_368 : decode cL_law 368 = .ok (.iadd, 1) := by decide +kernel
theorem dL_law_369 : decode cL_law 369 = .ok (.iaload, 1) := by decide +kernel
theorem dL_law_370 : decode cL_law 370 = .ok (.invokevirtual 36, 3) := by decide +kernel
theorem dL_law_373 : decode cL_law 373 = .ok (.aload_n 2, 1) := by decide +kernel
theorem dL_law_374 : decode cL_law 374 = .ok (.aload_n 0, 1) := by decide +kernel
theorem dL_law_375 : decode cL_law 375 = .ok (.iload_n 3, 1) := by decide +kernel
theorem dL_law_376 : decode cL_law 376 = .ok (.iconst 1, 1) := by decide +kernel
theorem dL_law_377 : decode cL_law 377 = .ok (.iadd, 1) := by decide +kernel
theorem dL_law_378 : decode cL_law 378 = .ok (.iaload, 1) := by decide +kernel
theorem dL_law_379 : decode cL_law 379 = .ok (.aload_n 0, 1) := by decide +kernel
theorem dL_law_380 : decode cL_law 380 = .ok (.iload_n 3, 1) := by decide +kernel
theorem dL_law_381 : decode cL_law 381 = .ok (.iconst 2, 1) := by decide +kernel
theorem dL_law_382 : decode cL_law 382 = .ok (.iadd, 1) := by decide +kernel
theorem dL_law_383 : decode cL_law 383 = .ok (.iaload, 1) := by decide +kernel
theorem dL_law_384 : decode cL_law 384 = .ok (.invokevirtual 39, 3) := by decide +kernel
theorem dL_law_387 : decode cL_law 387 = .ok (.if_icmp .eq 711, 3) := by decide +kernel
theorem dL_law_390 : decode cL_law 390 = .ok (.iconst 0, 1) := by decide +kernel
theorem dL_law_391 : decode cL_law 391 = .ok (.ireturn, 1) := by decide +kernel
theorem dL_law_392 : decode cL_law 392 = .ok (.aload_n 1, 1) := by decide +kernel
theorem dL_law_393 : decode cL_law 393 = .ok (.invokevirtual 40, 3) := by decide +kernel
theorem dL_law_396 : decode cL_law 396 = .ok (.aload_n 2, 1) := by decide +kernel
theorem dL_law_397 : decode cL_law 397 = .ok (.invokevirtual 44, 3) := by decide +kernel
theorem dL_law_400 : decode cL_law 400 = .ok (.if_icmp .eq 698, 3) := by decide +kernel
theorem dL_law_403 : decode cL_law 403 = .ok (.iconst 0, 1) := by decide +kernel
theorem dL_law_404 : decode cL_law 404 = .ok (.ireturn, 1) := by decide +kernel
theorem dL_law_405 : decode cL_law 405 = .ok (.aload_n 1, 1) := by decide +kernel
theorem dL_law_406 : decode cL_law 406 = .ok (.aload_n 0, 1) := by decide +kernel
theorem dL_law_407 : decode cL_law 407 = .ok (.iload_n 3, 1) := by decide +kernel
theorem dL_law_408 : decode cL_law 408 = .ok (.iconst 1, 1) := by decide +kernel
theorem dL_law_409 : decode cL_law 409 = .ok (.iadd, 1) := by decide +kernel
theorem dL_law_410 : decode cL_law 410 = .ok (.iaload, 1) := by decide +kernel
theorem dL_law_411 : decode cL_law 411 = .ok (.invokevirtual 45, 3) := by decide +kernel
theorem dL_law_414 : decode cL_law 414 = .ok (.aload_n 2, 1) := by decide +kernel
theorem dL_law_415 : decode cL_law 415 = .ok (.aload_n 0, 1) := by decide +kernel
theorem dL_law_416 : decode cL_law 416 = .ok (.iload_n 3, 1) := by decide +kernel
theorem dL_law_417 : decode cL_law 417 = .ok (.iconst 1, 1) := by decide +kernel
theorem dL_law_418 : decode cL_law 418 = .ok (.iadd, 1) := by decide +kernel
theorem dL_law_419 : decode cL_law 419 = .ok (.iaload, 1) := by decide +kernel
theorem dL_law_420 : decode cL_law 420 = .ok (.invokevirtual 48, 3) := by decide +kernel
theorem dL_law_423 : decode cL_law 423 = .ok (.if_icmp .eq 675, 3) := by decide +kernel
theorem dL_law_426 : decode cL_law 426 = .ok (.iconst 0, 1) := by decide +kernel
theorem dL_law_427 : decode cL_law 427 = .ok (.ireturn, 1) := by decide +kernel
theorem dL_law_428 : decode cL_law 428 = .ok (.aload_n 1, 1) := by decide +kernel
theorem dL_law_429 : decode cL_law 429 = .ok (.invokevirtual 49, 3) := by decide +kernel
theorem dL_law_432 : decode cL_law 432 = .ok (.aload_n 2, 1) := by decide +kernel
theorem dL_law_433 : decode cL_law 433 = .ok (.invokevirtual 52, 3) := by decide +kernel
theorem dL_law_436 : decode cL_law 436 = .ok (.if_icmp .eq 662, 3) := by decide +kernel
theorem dL_law_439 : decode cL_law 439 = .ok (.iconst 0, 1) := by decide +kernel
theorem dL_law_440 : decode cL_law 440 = .ok (.ireturn, 1) := by decide +kernel
theorem dL_law_441 : decode cL_law 441 = .ok (.aload_n 1, 1) := by decide +kernel
theorem dL_law_442 : decode cL_law 442 = .ok (.invokevirtual 53, 3) := by decide +kernel
theorem dL_law_445 : decode cL_law 445 = .ok (.aload_n 2, 1) := by decide +kernel
theorem dL_law_446 : decode cL_law 446 = .ok (.invokevirtual 56, 3) := by decide +kernel
theorem dL_law_449 : decode cL_law 449 = .ok (.if_icmp .eq 649, 3) := by decide +kernel
theorem dL_law_452 : decode cL_law 452 = .ok (.iconst 0, 1) := by decide +kernel
theorem dL_law_453 : decode cL_law 453 = .ok (.ireturn, 1) := by decide +kernel
theorem dL_law_454 : decode cL_law 454 = .ok (.aload_n 1, 1) := by decide +kernel
theorem dL_law_455 : decode cL_law 455 = .ok (.aload_n 0, 1) := by decide +kernel
theorem dL_law_456 : decode cL_law 456 = .ok (.iload_n 3, 1) := by decide +kernel
theorem dL_law_457 : decode cL_law 457 = .ok (.iconst 1, 1) := by decide +kernel
theorem dL_law_458 : decode cL_law 458 = .ok (.iadd, 1) := by decide +kernel
theorem dL_law_459 : decode cL_law 459 = .ok (.iaload, 1) := by decide +kernel
theorem dL_law_460 : decode cL_law 460 = .ok (.aload_n 0, 1) := by decide +kernel
theorem dL_law_461 : decode cL_law 461 = .ok (.iload_n 3, 1) := by decide +kernel
theorem dL_law_462 : decode cL_law 462 = .ok (.iconst 2, 1) := by decide +kernel
theorem dL_law_463 : decode cL_law 463 = .ok (.iadd, 1) := by decide +kernel
theorem dL_law_464 : decode cL_law 464 = .ok (.iaload, 1) := by decide +kernel
theorem dL_law_465 : decode cL_law 465 = .ok (.aload_n 0, 1) := by decide +kernel
theorem dL_law_466 : decode cL_law 466 = .ok (.iload_n 3, 1) := by decide +kernel
theorem dL_law_467 : decode cL_law 467 = .ok (.iconst 3, 1) := by decide +kernel
theorem dL_law_468 : decode cL_law 468 = .ok (.iadd, 1) := by decide +kernel
theorem dL_law_469 : decode cL_law 469 = .ok (.iaload, 1) := by decide +kernel
theorem dL_law_470 : decode cL_law 470 = .ok (.invokevirtual 57, 3) := by decide +kernel
theorem dL_law_473 : decode cL_law 473 = .ok (.aload_n 2, 1) := by decide +kernel
theorem dL_law_474 : decode cL_law 474 = .ok (.aload_n 0, 1) := by decide +kernel
theorem dL_law_475 : decode cL_law 475 = .ok (.iload_n 3, 1) := by decide +kernel
theorem dL_law_476 : decode cL_law 476 = .ok (.iconst 1, 1) := by decide +kernel
theorem dL_law_477 : decode cL_law 477 = .ok (.iadd, 1) := by decide +kernel
theorem dL_law_478 : decode cL_law 478 = .ok (.iaload, 1) := by decide +kernel
theorem dL_law_479 : decode cL_law 479 = .ok (.aload_n 0, 1) := by decide +kernel
theorem dL_law_480 : decode cL_law 480 = .ok (.iload_n 3, 1) := by decide +kernel
theorem dL_law_481 : decode cL_law 481 = .ok (.iconst 2, 1) := by decide +kernel
theorem dL_law_482 : decode cL_law 482 = .ok (.iadd, 1) := by decide +kernel
theorem dL_law_483 : decode cL_law 483 = .ok (.iaload, 1) := by decide +kernel
theorem dL_law_484 : decode cL_law 484 = .ok (.aload_n 0, 1) := by decide +kernel
theorem dL_law_485 : decode cL_law 485 = .ok (.iload_n 3, 1) := by decide +kernel
theorem dL_law_486 : decode cL_law 486 = .ok (.iconst 3, 1) := by decide +kernel
theorem dL_law_487 : decode cL_law 487 = .ok (.iadd, 1) := by decide +kernel
theorem dL_law_488 : decode cL_law 488 = .ok (.iaload, 1) := by decide +kernel
theorem dL_law_489 : decode cL_law 489 = .ok (.invokevirtual 61, 3) := by decide +kernel
theorem dL_law_492 : decode cL_law 492 = .ok (.if_icmp .eq 606, 3) := by decide +kernel
theorem dL_law_495 : decode cL_law 495 = .ok (.iconst 0, 1) := by decide +kernel
theorem dL_law_496 : decode cL_law 496 = .ok (.ireturn, 1) := by decide +kernel
theorem dL_law_497 : decode cL_law 497 = .ok (.aload_n 1, 1) := by decide +kernel
theorem dL_law_498 : decode cL_law 498 = .ok (.aload_n 0, 1) := by decide +kernel
theorem dL_law_499 : decode cL_law 499 = .ok (.iload_n 3, 1) := by decide +kernel
theorem dL_law_500 : decode cL_law 500 = .ok (.iconst 1, 1) := by decide +kernel
theorem dL_law_501 : decode cL_law 501 = .ok (.iadd, 1) := by decide +kernel
theorem dL_law_502 : decode cL_law 502 = .ok (.iaload, 1) := by decide +kernel
theorem dL_law_503 : decode cL_law 503 = .ok (.aload_n 0, 1) := by decide +kernel
theorem dL_law_504 : decode cL_law 504 = .ok (.iload_n 3, 1) := by decide +kernel
theorem dL_law_505 : decode cL_law 505 = .ok (.iconst 2, 1) := by decide +kernel
theorem dL_law_506 : decode cL_law 506 = .ok (.iadd, 1) := by decide +kernel
theorem dL_law_507 : decode cL_law 507 = .ok (.iaload, 1) := by decide +kernel
theorem dL_law_508 : decode cL_law 508 = .ok (.aload_n 0, 1) := by decide +kernel
theorem dL_law_509 : decode cL_law 509 = .ok (.iload_n 3, 1) := by decide +kernel
theorem dL_law_510 : decode cL_law 510 = .ok (.iconst 3, 1) := by decide +kernel
theorem dL_law_511 : decode cL_law 511 = .ok (.iadd, 1) := by decide +kernel
theorem dL_law_512 : decode cL_law 512 = .ok (.iaload, 1) := by decide +kernel
theorem dL_law_513 : decode cL_law 513 = .ok (.invokevirtual 62, 3) := by decide +kernel
theorem dL_law_516 : decode cL_law 516 = .ok (.aload_n 2, 1) := by decide +kernel
theorem dL_law_517 : decode cL_law 517 = .ok (.aload_n 0, 1) := by decide +kernel
theorem dL_law_518 : decode cL_law 518 = .ok (.iload_n 3, 1) := by decide +kernel
theorem dL_law_519 : decode cL_law 519 = .ok (.iconst 1, 1) := by decide +kernel
theorem dL_law_520 : decode cL_law 520 = .ok (.iadd, 1) := by decide +kernel
theorem dL_law_521 : decode cL_law 521 = .ok (.iaload, 1) := by decide +kernel
theorem dL_law_522 : decode cL_law 522 = .ok (.aload_n 0, 1) := by decide +kernel
theorem dL_law_523 : decode cL_law 523 = .ok (.iload_n 3, 1) := by decide +kernel
theorem dL_law_524 : decode cL_law 524 = .ok (.iconst 2, 1) := by decide +kernel
theorem dL_law_525 : decode cL_law 525 = .ok (.iadd, 1) := by decide +kernel
theorem dL_law_526 : decode cL_law 526 = .ok (.iaload, 1) := by decide +kernel
theorem dL_law_527 : decode cL_law 527 = .ok (.aload_n 0, 1) := by decide +kernel
theorem dL_law_528 : decode cL_law 528 = .ok (.iload_n 3, 1) := by decide +kernel
theorem dL_law_529 : decode cL_law 529 = .ok (.iconst 3, 1) := by decide +kernel
theorem dL_law_530 : decode cL_law 530 = .ok (.iadd, 1) := by decide +kernel
theorem dL_law_531 : decode cL_law 531 = .ok (.iaload, 1) := by decide +kernel
theorem dL_law_532 : decode cL_law 532 = .ok (.invokevirtual 65, 3) := by decide +kernel
theorem dL_law_535 : decode cL_law 535 = .ok (.if_icmp .eq 563, 3) := by decide +kernel
theorem dL_law_538 : decode cL_law 538 = .ok (.iconst 0, 1) := by decide +kernel
theorem dL_law_539 : decode cL_law 539 = .ok (.ireturn, 1) := by decide +kernel
theorem dL_law_540 : decode cL_law 540 = .ok (.aload_n 1, 1) := by decide +kernel
theorem dL_law_541 : decode cL_law 541 = .ok (.aload_n 0, 1) := by decide +kernel
theorem dL_law_542 : decode cL_law 542 = .ok (.iload_n 3, 1) := by decide +kernel
theorem dL_law_543 : decode cL_law 543 = .ok (.iconst 1, 1) := by decide +kernel
theorem dL_law_544 : decode cL_law 544 = .ok (.iadd, 1) := by decide +kernel
theorem dL_law_545 : decode cL_law 545 = .ok (.iaload, 1) := by decide +kernel
theorem dL_law_546 : decode cL_law 546 = .ok (.aload_n 0, 1) := by decide +kernel
theorem dL_law_547 : decode cL_law 547 = .ok (.iload_n 3, 1) := by decide +kernel
theorem dL_law_548 : decode cL_law 548 = .ok (.iconst 2, 1) := by decide +kernel
theorem dL_law_549 : decode cL_law 549 = .ok (.iadd, 1) := by decide +kernel
theorem dL_law_550 : decode cL_law 550 = .ok (.iaload, 1) := by decide +kernel
theorem dL_law_551 : decode cL_law 551 = .ok (.invokevirtual 66, 3) := by decide +kernel
theorem dL_law_554 : decode cL_law 554 = .ok (.aload_n 2, 1) := by decide +kernel
theorem dL_law_555 : decode cL_law 555 = .ok (.aload_n 0, 1) := by decide +kernel
theorem dL_law_556 : decode cL_law 556 = .ok (.iload_n 3, 1) := by decide +kernel
theorem dL_law_557 : decode cL_law 557 = .ok (.iconst 1, 1) := by decide +kernel
theorem dL_law_558 : decode cL_law 558 = .ok (.iadd, 1) := by decide +kernel
theorem dL_law_559 : decode cL_law 559 = .ok (.iaload, 1) := by decide +kernel
theorem dL_law_560 : decode cL_law 560 = .ok (.aload_n 0, 1) := by decide +kernel
theorem dL_law_561 : decode cL_law 561 = .ok (.iload_n 3, 1) := by decide +kernel
theorem dL_law_562 : decode cL_law 562 = .ok (.iconst 2, 1) := by decide +kernel
theorem dL_law_563 : decode cL_law 563 = .ok (.iadd, 1) := by decide +kernel
theorem dL_law_564 : decode cL_law 564 = .ok (.iaload, 1) := by decide +kernel
theorem dL_law_565 : decode cL_law 565 = .ok (.invokevirtual 69, 3) := by decide +kernel
theorem dL_law_568 : decode cL_law 568 = .ok (.if_icmp .eq 530, 3) := by decide +kernel
theorem dL_law_571 : decode cL_law 571 = .ok (.iconst 0, 1) := by decide +kernel
theorem dL_law_572 : decode cL_law 572 = .ok (.ireturn, 1) := by decide +kernel
theorem dL_law_573 : decode cL_law 573 = .ok (.aload_n 1, 1) := by decide +kernel
theorem dL_law_574 : decode cL_law 574 = .ok (.aload_n 0, 1) := by decide +kernel
theorem dL_law_575 : decode cL_law 575 = .ok (.iload_n 3, 1) := by decide +kernel
theorem dL_law_576 : decode cL_law 576 = .ok (.iconst 1, 1) := by decide +kernel
theorem dL_law_577 : decode cL_law 577 = .ok (.iadd, 1) := by decide +kernel
theorem dL_law_578 : decode cL_law 578 = .ok (.iaload, 1) := by decide +kernel
theorem dL_law_579 : decode cL_law 579 = .ok (.invokevirtual 70, 3) := by decide +kernel
theorem dL_law_582 : decode cL_law 582 = .ok (.aload_n 2, 1) := by decide +kernel
theorem dL_law_583 : decode cL_law 583 = .ok (.aload_n 0, 1) := by decide +kernel
theorem dL_law_584 : decode cL_law 584 = .ok (.iload_n 3, 1) := by decide +kernel
theorem dL_law_585 : decode cL_law 585 = .ok (.iconst 1, 1) := by decide +kernel
theorem dL_law_586 : decode cL_law 586 = .ok (.iadd, 1) := by decide +kernel
theorem dL_law_587 : decode cL_law 587 = .ok (.iaload, 1) := by decide +kernel
theorem dL_law_588 : decode cL_law 588 = .ok (.invokevirtual 73, 3) := by decide +kernel
theorem dL_law_591 : decode cL_law 591 = .ok (.if_icmp .eq 507, 3) := by decide +kernel
theorem dL_law_594 : decode cL_law 594 = .ok (.iconst 0, 1) := by decide +kernel
theorem dL_law_595 : decode cL_law 595 = .ok (.ireturn, 1) := by decide +kernel
theorem dL_law_596 : decode cL_law 596 = .ok (.aload_n 1, 1) := by decide +kernel
theorem dL_law_597 : decode cL_law 597 = .ok (.aload_n 0, 1) := by decide +kernel
theorem dL_law_598 : decode cL_law 598 = .ok (.iload_n 3, 1) := by decide +kernel
theorem dL_law_599 : decode cL_law 599 = .ok (.iconst 1, 1) := by decide +kernel
theorem dL_law_600 : decode cL_law 600 = .ok (.iadd, 1) := by decide +kernel
theorem dL_law_601 : decode cL_law 601 = .ok (.iaload, 1) := by decide +kernel
theorem dL_law_602 : decode cL_law 602 = .ok (.invokevirtual 74, 3) := by decide +kernel
theorem dL_law_605 : decode cL_law 605 = .ok (.aload_n 2, 1) := by decide +kernel
theorem dL_law_606 : decode cL_law 606 = .ok (.aload_n 0, 1) := by decide +kernel
theorem dL_law_607 : decode cL_law 607 = .ok (.iload_n 3, 1) := by decide +kernel
theorem dL_law_608 : decode cL_law 608 = .ok (.iconst 1, 1) := by decide +kernel
theorem dL_law_609 : decode cL_law 609 = .ok (.iadd, 1) := by decide +kernel
theorem dL_law_610 : decode cL_law 610 = .ok (.iaload, 1) := by decide +kernel
theorem dL_law_611 : decode cL_law 611 = .ok (.invokevirtual 77, 3) := by decide +kernel
theorem dL_law_614 : decode cL_law 614 = .ok (.if_icmp .eq 484, 3) := by decide +kernel
theorem dL_law_617 : decode cL_law 617 = .ok (.iconst 0, 1) := by decide +kernel
theorem dL_law_618 : decode cL_law 618 = .ok (.ireturn, 1) := by decide +kernel
theorem dL_law_619 : decode cL_law 619 = .ok (.aload_n 1, 1) := by decide +kernel
theorem dL_law_620 : decode cL_law 620 = .ok (.aload_n 0, 1) := by decide +kernel
theorem dL_law_621 : decode cL_law 621 = .ok (.iload_n 3, 1) := by decide +kernel
theorem dL_law_622 : decode cL_law 622 = .ok (.iconst 1, 1) := by decide +kernel
theorem dL_law_623 : decode cL_law 623 = .ok (.iadd, 1) := by decide +kernel
theorem dL_law_624 : decode cL_law 624 = .ok (.iaload, 1) := by decide +kernel
theorem dL_law_625 : decode cL_law 625 = .ok (.invokevirtual 78, 3) := by decide +kernel
theorem dL_law_628 : decode cL_law 628 = .ok (.aload_n 2, 1) := by decide +kernel
theorem dL_law_629 : decode cL_law 629 = .ok (.aload_n 0, 1) := by decide +kernel
theorem dL_law_630 : decode cL_law 630 = .ok (.iload_n 3, 1) := by decide +kernel
theorem dL_law_631 : decode cL_law 631 = .ok (.iconst 1, 1) := by decide +kernel
theorem dL_law_632 : decode cL_law 632 = .ok (.iadd, 1) := by decide +kernel
theorem dL_law_633 : decode cL_law 633 = .ok (.iaload, 1) := by decide +kernel
theorem dL_law_634 : decode cL_law 634 = .ok (.invokevirtual 81, 3) := by decide +kernel
theorem dL_law_637 : decode cL_law 637 = .ok (.if_icmp .eq 461, 3) := by decide +kernel
theorem dL_law_640 : decode cL_law 640 = .ok (.iconst 0, 1) := by decide +kernel
theorem dL_law_641 : decode cL_law 641 = .ok (.ireturn, 1) := by decide +kernel
theorem dL_law_642 : decode cL_law 642 = .ok (.aload_n 1, 1) := by decide +kernel
theorem dL_law_643 : decode cL_law 643 = .ok (.aload_n 0, 1) := by decide +kernel
theorem dL_law_644 : decode cL_law 644 = .ok (.iload_n 3, 1) := by decide +kernel
theorem dL_law_645 : decode cL_law 645 = .ok (.iconst 1, 1) := by decide +kernel
theorem dL_law_646 : decode cL_law 646 = .ok (.iadd, 1) := by decide +kernel
theorem dL_law_647 : decode cL_law 647 = .ok (.iaload, 1) := by decide +kernel
theorem dL_law_648 : decode cL_law 648 = .ok (.invokevirtual 82, 3) := by decide +kernel
theorem dL_law_651 : decode cL_law 651 = .ok (.aload_n 2, 1) := by decide +kernel
theorem dL_law_652 : decode cL_law 652 = .ok (.aload_n 0, 1) := by decide +kernel
theorem dL_law_653 : decode cL_law 653 = .ok (.iload_n 3, 1) := by decide +kernel
theorem dL_law_654 : decode cL_law 654 = .ok (.iconst 1, 1) := by decide +kernel
theorem dL_law_655 : decode cL_law 655 = .ok (.iadd, 1) := by decide +kernel
theorem dL_law_656 : decode cL_law 656 = .ok (.iaload, 1) := by decide +kernel
theorem dL_law_657 : decode cL_law 657 = .ok (.invokevirtual 85, 3) := by decide +kernel
theorem dL_law_660 : decode cL_law 660 = .ok (.if_icmp .eq 438, 3) := by decide +kernel
theorem dL_law_663 : decode cL_law 663 = .ok (.iconst 0, 1) := by decide +kernel
theorem dL_law_664 : decode cL_law 664 = .ok (.ireturn, 1) := by decide +kernel
theorem dL_law_665 : decode cL_law 665 = .ok (.aload_n 1, 1) := by decide +kernel
theorem dL_law_666 : decode cL_law 666 = .ok (.invokevirtual 86, 3) := by decide +kernel
theorem dL_law_669 : decode cL_law 669 = .ok (.aload_n 2, 1) := by decide +kernel
theorem dL_law_670 : decode cL_law 670 = .ok (.invokevirtual 89, 3) := by decide +kernel
theorem dL_law_673 : decode cL_law 673 = .ok (.if_icmp .eq 425, 3) := by decide +kernel
theorem dL_law_676 : decode cL_law 676 = .ok (.iconst 0, 1) := by decide +kernel
theorem dL_law_677 : decode cL_law 677 = .ok (.ireturn, 1) := by decide +kernel
theorem dL_law_678 : decode cL_law 678 = .ok (.aload_n 1, 1) := by decide +kernel
theorem dL_law_679 : decode cL_law 679 = .ok (.aload_n 0, 1) := by decide +kernel
theorem dL_law_680 : decode cL_law 680 = .ok (.iload_n 3, 1) := by decide +kernel
theorem dL_law_681 : decode cL_law 681 = .ok (.iconst 1, 1) := by decide +kernel
theorem dL_law_682 : decode cL_law 682 = .ok (.iadd, 1) := by decide +kernel
theorem dL_law_683 : decode cL_law 683 = .ok (.iaload, 1) := by decide +kernel
theorem dL_law_684 : decode cL_law 684 = .ok (.aload_n 0, 1) := by decide +kernel
theorem dL_law_685 : decode cL_law 685 = .ok (.iload_n 3, 1) := by decide +kernel
theorem dL_law_686 : decode cL_law 686 = .ok (.iconst 2, 1) := by decide +kernel
theorem dL_law_687 : decode cL_law 687 = .ok (.iadd, 1) := by decide +kernel
theorem dL_law_688 : decode cL_law 688 = .ok (.iaload, 1) := by decide +kernel
theorem dL_law_689 : decode cL_law 689 = .ok (.invokevirtual 90, 3) := by decide +kernel
theorem dL_law_692 : decode cL_law 692 = .ok (.aload_n 2, 1) := by decide +kernel
theorem dL_law_693 : decode cL_law 693 = .ok (.aload_n 0, 1) := by decide +kernel
theorem dL_law_694 : decode cL_law 694 = .ok (.iload_n 3, 1) := by decide +kernel
theorem dL_law_695 : decode cL_law 695 = .ok (.iconst 1, 1) := by decide +kernel
theorem dL_law_696 : decode cL_law 696 = .ok (.iadd, 1) := by decide +kernel
theorem dL_law_697 : decode cL_law 697 = .ok (.iaload, 1) := by decide +kernel
theorem dL_law_698 : decode cL_law 698 = .ok (.aload_n 0, 1) := by decide +kernel
theorem dL_law_699 : decode cL_law 699 = .ok (.iload_n 3, 1) := by decide +kernel
theorem dL_law_700 : decode cL_law 700 = .ok (.iconst 2, 1) := by decide +kernel
theorem dL_law_701 : decode cL_law 701 = .ok (.iadd, 1) := by decide +kernel
theorem dL_law_702 : decode cL_law 702 = .ok (.iaload, 1) := by decide +kernel
theorem dL_law_703 : decode cL_law 703 = .ok (.invokevirtual 93, 3) := by decide +kernel
theorem dL_law_706 : decode cL_law 706 = .ok (.if_icmp .eq 392, 3) := by decide +kernel
theorem dL_law_709 : decode cL_law 709 = .ok (.iconst 0, 1) := by decide +kernel
theorem dL_law_710 : decode cL_law 710 = .ok (.ireturn, 1) := by decide +kernel
theorem dL_law_711 : decode cL_law 711 = .ok (.aload_n 1, 1) := by decide +kernel
theorem dL_law_712 : decode cL_law 712 = .ok (.aload_n 0, 1) := by decide +kernel
theorem dL_law_713 : decode cL_law 713 = .ok (.iload_n 3, 1) := by decide +kernel
theorem dL_law_714 : decode cL_law 714 = .ok (.iconst 1, 1) := by decide +kernel
theorem dL_law_715 : decode cL_law 715 = .ok (.iadd, 1) := by decide +kernel
theorem dL_law_716 : decode cL_law 716 = .ok (.iaload, 1) := by decide +kernel
theorem dL_law_717 : decode cL_law 717 = .ok (.aload_n 0, 1) := by decide +kernel
theorem dL_law_718 : decode cL_law 718 = .ok (.iload_n 3, 1) := by decide +kernel
theorem dL_law_719 : decode cL_law 719 = .ok (.iconst 2, 1) := by decide +kernel
theorem dL_law_720 : decode cL_law 720 = .ok (.iadd, 1) := by decide +kernel
theorem dL_law_721 : decode cL_law 721 = .ok (.iaload, 1) := by decide +kernel
theorem dL_law_722 : decode cL_law 722 = .ok (.aload_n 0, 1) := by decide +kernel
theorem dL_law_723 : decode cL_law 723 = .ok (.iload_n 3, 1) := by decide +kernel
theorem dL_law_724 : decode cL_law 724 = .ok (.iconst 3, 1) := by decide +kernel
theorem dL_law_725 : decode cL_law 725 = .ok (.iadd, 1) := by decide +kernel
theorem dL_law_726 : decode cL_law 726 = .ok (.iaload, 1) := by decide +kernel
theorem dL_law_727 : decode cL_law 727 = .ok (.invokevirtual 94, 3) := by decide +kernel
theorem dL_law_730 : decode cL_law 730 = .ok (.aload_n 2, 1) := by decide +kernel
theorem dL_law_731 : decode cL_law 731 = .ok (.aload_n 0, 1) := by decide +kernel
theorem dL_law_732 : decode cL_law 732 = .ok (.iload_n 3, 1) := by decide +kernel
theorem dL_law_733 : decode cL_law 733 = .ok (.iconst 1, 1) := by decide +kernel
theorem dL_law_734 : decode cL_law 734 = .ok (.iadd, 1) := by decide +kernel
theorem dL_law_735 : decode cL_law 735 = .ok (.iaload, 1) := by decide +kernel
theorem dL_law_736 : decode cL_law 736 = .ok (.aload_n 0, 1) := by decide +kernel
theorem dL_law_737 : decode cL_law 737 = .ok (.iload_n 3, 1) := by decide +kernel
theorem dL_law_738 : decode cL_law 738 = .ok (.iconst 2, 1) := by decide +kernel
theorem dL_law_739 : decode cL_law 739 = .ok (.iadd, 1) := by decide +kernel
theorem dL_law_740 : decode cL_law 740 = .ok (.iaload, 1) := by decide +kernel
theorem dL_law_741 : decode cL_law 741 = .ok (.aload_n 0, 1) := by decide +kernel
theorem dL_law_742 : decode cL_law 742 = .ok (.iload_n 3, 1) := by decide +kernel
theorem dL_law_743 : decode cL_law 743 = .ok (.iconst 3, 1) := by decide +kernel
theorem dL_law_744 : decode cL_law 744 = .ok (.iadd, 1) := by decide +kernel
theorem dL_law_745 : decode cL_law 745 = .ok (.iaload, 1) := by decide +kernel
theorem dL_law_746 : decode cL_law 746 = .ok (.invokevirtual 97, 3) := by decide +kernel
theorem dL_law_749 : decode cL_law 749 = .ok (.if_icmp .eq 349, 3) := by decide +kernel
theorem dL_law_752 : decode cL_law 752 = .ok (.iconst 0, 1) := by decide +kernel
theorem dL_law_753 : decode cL_law 753 = .ok (.ireturn, 1) := by decide +kernel
theorem dL_law_754 : decode cL_law 754 = .ok (.aload_n 1, 1) := by decide +kernel
theorem dL_law_755 : decode cL_law 755 = .ok (.aload_n 0, 1) := by decide +kernel
theorem dL_law_756 : decode cL_law 756 = .ok (.iload_n 3, 1) := by decide +kernel
theorem dL_law_757 : decode cL_law 757 = .ok (.iconst 1, 1) := by decide +kernel
theorem dL_law_758 : decode cL_law 758 = .ok (.iadd, 1) := by decide +kernel
theorem dL_law_759 : decode cL_law 759 = .ok (.iaload, 1) := by decide +kernel
theorem dL_law_760 : decode cL_law 760 = .ok (.invokevirtual 98, 3) := by decide +kernel
theorem dL_law_763 : decode cL_law 763 = .ok (.aload_n 2, 1) := by decide +kernel
theorem dL_law_764 : decode cL_law 764 = .ok (.aload_n 0, 1) := by decide +kernel
theorem dL_law_765 : decode cL_law 765 = .ok (.iload_n 3, 1) := by decide +kernel
theorem dL_law_766 : decode cL_law 766 = .ok (.iconst 1, 1) := by decide +kernel
theorem dL_law_767 : decode cL_law 767 = .ok (.iadd, 1) := by decide +kernel
theorem dL_law_768 : decode cL_law 768 = .ok (.iaload, 1) := by decide +kernel
theorem dL_law_769 : decode cL_law 769 = .ok (.invokevirtual 101, 3) := by decide +kernel
theorem dL_law_772 : decode cL_law 772 = .ok (.if_icmp .eq 326, 3) := by decide +kernel
theorem dL_law_775 : decode cL_law 775 = .ok (.iconst 0, 1) := by decide +kernel
theorem dL_law_776 : decode cL_law 776 = .ok (.ireturn, 1) := by decide +kernel
theorem dL_law_777 : decode cL_law 777 = .ok (.aload_n 1, 1) := by decide +kernel
theorem dL_law_778 : decode cL_law 778 = .ok (.aload_n 0, 1) := by decide +kernel
theorem dL_law_779 : decode cL_law 779 = .ok (.iload_n 3, 1) := by decide +kernel
theorem dL_law_780 : decode cL_law 780 = .ok (.iconst 1, 1) := by decide +kernel
theorem dL_law_781 : decode cL_law 781 = .ok (.iadd, 1) := by decide +kernel
theorem dL_law_782 : decode cL_law 782 = .ok (.iaload, 1) := by decide +kernel
theorem dL_law_783 : decode cL_law 783 = .ok (.aload_n 0, 1) := by decide +kernel
theorem dL_law_784 : decode cL_law 784 = .ok (.iload_n 3, 1) := by decide +kernel
theorem dL_law_785 : decode cL_law 785 = .ok (.iconst 2, 1) := by decide +kernel
theorem dL_law_786 : decode cL_law 786 = .ok (.iadd, 1) := by decide +kernel
theorem dL_law_787 : decode cL_law 787 = .ok (.iaload, 1) := by decide +kernel
theorem dL_law_788 : decode cL_law 788 = .ok (.invokevirtual 102, 3) := by decide +kernel
theorem dL_law_791 : decode cL_law 791 = .ok (.aload_n 2, 1) := by decide +kernel
theorem dL_law_792 : decode cL_law 792 = .ok (.aload_n 0, 1) := by decide +kernel
theorem dL_law_793 : decode cL_law 793 = .ok (.iload_n 3, 1) := by decide +kernel
theorem dL_law_794 : decode cL_law 794 = .ok (.iconst 1, 1) := by decide +kernel
theorem dL_law_795 : decode cL_law 795 = .ok (.iadd, 1) := by decide +kernel
theorem dL_law_796 : decode cL_law 796 = .ok (.iaload, 1) := by decide +kernel
theorem dL_law_797 : decode cL_law 797 = .ok (.aload_n 0, 1) := by decide +kernel
theorem dL_law_798 : decode cL_law 798 = .ok (.iload_n 3, 1) := by decide +kernel
theorem dL_law_799 : decode cL_law 799 = .ok (.iconst 2, 1) := by decide +kernel
theorem dL_law_800 : decode cL_law 800 = .ok (.iadd, 1) := by decide +kernel
theorem dL_law_801 : decode cL_law 801 = .ok (.iaload, 1) := by decide +kernel
theorem dL_law_802 : decode cL_law 802 = .ok (.invokevirtual 105, 3) := by decide +kernel
theorem dL_law_805 : decode cL_law 805 = .ok (.if_icmp .eq 293, 3) := by decide +kernel
theorem dL_law_808 : decode cL_law 808 = .ok (.iconst 0, 1) := by decide +kernel
theorem dL_law_809 : decode cL_law 809 = .ok (.ireturn, 1) := by decide +kernel
theorem dL_law_810 : decode cL_law 810 = .ok (.aload_n 1, 1) := by decide +kernel
theorem dL_law_811 : decode cL_law 811 = .ok (.aload_n 0, 1) := by decide +kernel
theorem dL_law_812 : decode cL_law 812 = .ok (.iload_n 3, 1) := by decide +kernel
theorem dL_law_813 : decode cL_law 813 = .ok (.iconst 1, 1) := by decide +kernel
theorem dL_law_814 : decode cL_law 814 = .ok (.iadd, 1) := by decide +kernel
theorem dL_law_815 : decode cL_law 815 = .ok (.iaload, 1) := by decide +kernel
theorem dL_law_816 : decode cL_law 816 = .ok (.aload_n 0, 1) := by decide +kernel
theorem dL_law_817 : decode cL_law 817 = .ok (.iload_n 3, 1) := by decide +kernel
theorem dL_law_818 : decode cL_law 818 = .ok (.iconst 2, 1) := by decide +kernel
theorem dL_law_819 : decode cL_law 819 = .ok (.iadd, 1) := by decide +kernel
theorem dL_law_820 : decode cL_law 820 = .ok (.iaload, 1) := by decide +kernel
theorem dL_law_821 : decode cL_law 821 = .ok (.aload_n 0, 1) := by decide +kernel
theorem dL_law_822 : decode cL_law 822 = .ok (.iload_n 3, 1) := by decide +kernel
theorem dL_law_823 : decode cL_law 823 = .ok (.iconst 3, 1) := by decide +kernel
theorem dL_law_824 : decode cL_law 824 = .ok (.iadd, 1) := by decide +kernel
theorem dL_law_825 : decode cL_law 825 = .ok (.iaload, 1) := by decide +kernel
theorem dL_law_826 : decode cL_law 826 = .ok (.invokevirtual 106, 3) := by decide +kernel
theorem dL_law_829 : decode cL_law 829 = .ok (.aload_n 2, 1) := by decide +kernel
theorem dL_law_830 : decode cL_law 830 = .ok (.aload_n 0, 1) := by decide +kernel
theorem dL_law_831 : decode cL_law 831 = .ok (.iload_n 3, 1) := by decide +kernel
theorem dL_law_832 : decode cL_law 832 = .ok (.iconst 1, 1) := by decide +kernel
theorem dL_law_833 : decode cL_law 833 = .ok (.iadd, 1) := by decide +kernel
theorem dL_law_834 : decode cL_law 834 = .ok (.iaload, 1) := by decide +kernel
theorem dL_law_835 : decode cL_law 835 = .ok (.aload_n 0, 1) := by decide +kernel
theorem dL_law_836 : decode cL_law 836 = .ok (.iload_n 3, 1) := by decide +kernel
theorem dL_law_837 : decode cL_law 837 = .ok (.iconst 2, 1) := by decide +kernel
theorem dL_law_838 : decode cL_law 838 = .ok (.iadd, 1) := by decide +kernel
theorem dL_law_839 : decode cL_law 839 = .ok (.iaload, 1) := by decide +kernel
theorem dL_law_840 : decode cL_law 840 = .ok (.aload_n 0, 1) := by decide +kernel
theorem dL_law_841 : decode cL_law 841 = .ok (.iload_n 3, 1) := by decide +kernel
theorem dL_law_842 : decode cL_law 842 = .ok (.iconst 3, 1) := by decide +kernel
theorem dL_law_843 : decode cL_law 843 = .ok (.iadd, 1) := by decide +kernel
theorem dL_law_844 : decode cL_law 844 = .ok (.iaload, 1) := by decide +kernel
theorem dL_law_845 : decode cL_law 845 = .ok (.invokevirtual 109, 3) := by decide +kernel
theorem dL_law_848 : decode cL_law 848 = .ok (.if_icmp .eq 250, 3) := by decide +kernel
theorem dL_law_851 : decode cL_law 851 = .ok (.iconst 0, 1) := by decide +kernel
theorem dL_law_852 : decode cL_law 852 = .ok (.ireturn, 1) := by decide +kernel
theorem dL_law_853 : decode cL_law 853 = .ok (.aload_n 1, 1) := by decide +kernel
theorem dL_law_854 : decode cL_law 854 = .ok (.invokevirtual 110, 3) := by decide +kernel
theorem dL_law_857 : decode cL_law 857 = .ok (.aload_n 2, 1) := by decide +kernel
theorem dL_law_858 : decode cL_law 858 = .ok (.invokevirtual 113, 3) := by decide +kernel
theorem dL_law_861 : decode cL_law 861 = .ok (.if_icmp .eq 237, 3) := by decide +kernel
theorem dL_law_864 : decode cL_law 864 = .ok (.iconst 0, 1) := by decide +kernel
theorem dL_law_865 : decode cL_law 865 = .ok (.ireturn, 1) := by decide +kernel
theorem dL_law_866 : decode cL_law 866 = .ok (.aload_n 1, 1) := by decide +kernel
theorem dL_law_867 : decode cL_law 867 = .ok (.aload_n 0, 1) := by decide +kernel
theorem dL_law_868 : decode cL_law 868 = .ok (.iload_n 3, 1) := by decide +kernel
theorem dL_law_869 : decode cL_law 869 = .ok (.iconst 1, 1) := by decide +kernel
theorem dL_law_870 : decode cL_law 870 = .ok (.iadd, 1) := by decide +kernel
theorem dL_law_871 : decode cL_law 871 = .ok (.iaload, 1) := by decide +kernel
theorem dL_law_872 : decode cL_law 872 = .ok (.invokevirtual 114, 3) := by decide +kernel
theorem dL_law_875 : decode cL_law 875 = .ok (.aload_n 2, 1) := by decide +kernel
theorem dL_law_876 : decode cL_law 876 = .ok (.aload_n 0, 1) := by decide +kernel
theorem dL_law_877 : decode cL_law 877 = .ok (.iload_n 3, 1) := by decide +kernel
theorem dL_law_878 : decode cL_law 878 = .ok (.iconst 1, 1) := by decide +kernel
theorem dL_law_879 : decode cL_law 879 = .ok (.iadd, 1) := by decide +kernel
theorem dL_law_880 : decode cL_law 880 = .ok (.iaload, 1) := by decide +kernel
theorem dL_law_881 : decode cL_law 881 = .ok (.invokevirtual 117, 3) := by decide +kernel
theorem dL_law_884 : decode cL_law 884 = .ok (.if_icmp .eq 214, 3) := by decide +kernel
theorem dL_law_887 : decode cL_law 887 = .ok (.iconst 0, 1) := by decide +kernel
theorem dL_law_888 : decode cL_law 888 = .ok (.ireturn, 1) := by decide +kernel
theorem dL_law_889 : decode cL_law 889 = .ok (.aload_n 1, 1) := by decide +kernel
theorem dL_law_890 : decode cL_law 890 = .ok (.aload_n 0, 1) := by decide +kernel
theorem dL_law_891 : decode cL_law 891 = .ok (.iload_n 3, 1) := by decide +kernel
theorem dL_law_892 : decode cL_law 892 = .ok (.iconst 1, 1) := by decide +kernel
theorem dL_law_893 : decode cL_law 893 = .ok (.iadd, 1) := by decide +kernel
theorem dL_law_894 : decode cL_law 894 = .ok (.iaload, 1) := by decide +kernel
theorem dL_law_895 : decode cL_law 895 = .ok (.invokevirtual 118, 3) := by decide +kernel
theorem dL_law_898 : decode cL_law 898 = .ok (.aload_n 2, 1) := by decide +kernel
theorem dL_law_899 : decode cL_law 899 = .ok (.aload_n 0, 1) := by decide +kernel
theorem dL_law_900 : decode cL_law 900 = .ok (.iload_n 3, 1) := by decide +kernel
theorem dL_law_901 : decode cL_law 901 = .ok (.iconst 1, 1) := by decide +kernel
theorem dL_law_902 : decode cL_law 902 = .ok (.iadd, 1) := by decide +kernel
theorem dL_law_903 : decode cL_law 903 = .ok (.iaload, 1) := by decide +kernel
theorem dL_law_904 : decode cL_law 904 = .ok (.invokevirtual 121, 3) := by decide +kernel
theorem dL_law_907 : decode cL_law 907 = .ok (.if_icmp .eq 191, 3) := by decide +kernel
theorem dL_law_910 : decode cL_law 910 = .ok (.iconst 0, 1) := by decide +kernel
theorem dL_law_911 : decode cL_law 911 = .ok (.ireturn, 1) := by decide +kernel
theorem dL_law_912 : decode cL_law 912 = .ok (.aload_n 1, 1) := by decide +kernel
theorem dL_law_913 : decode cL_law 913 = .ok (.invokevirtual 122, 3) := by decide +kernel
theorem dL_law_916 : decode cL_law 916 = .ok (.aload_n 2, 1) := by decide +kernel
theorem dL_law_917 : decode cL_law 917 = .ok (.invokevirtual 125, 3) := by decide +kernel
theorem dL_law_920 : decode cL_law 920 = .ok (.if_icmp .eq 178, 3) := by decide +kernel
theorem dL_law_923 : decode cL_law 923 = .ok (.iconst 0, 1) := by decide +kernel
theorem dL_law_924 : decode cL_law 924 = .ok (.ireturn, 1) := by decide +kernel
theorem dL_law_925 : decode cL_law 925 = .ok (.aload_n 1, 1) := by decide +kernel
theorem dL_law_926 : decode cL_law 926 = .ok (.aload_n 0, 1) := by decide +kernel
theorem dL_law_927 : decode cL_law 927 = .ok (.iload_n 3, 1) := by decide +kernel
theorem dL_law_928 : decode cL_law 928 = .ok (.iconst 1, 1) := by decide +kernel
theorem dL_law_929 : decode cL_law 929 = .ok (.iadd, 1) := by decide +kernel
theorem dL_law_930 : decode cL_law 930 = .ok (.iaload, 1) := by decide +kernel
theorem dL_law_931 : decode cL_law 931 = .ok (.aload_n 0, 1) := by decide +kernel
theorem dL_law_932 : decode cL_law 932 = .ok (.iload_n 3, 1) := by decide +kernel
theorem dL_law_933 : decode cL_law 933 = .ok (.iconst 2, 1) := by decide +kernel
theorem dL_law_934 : decode cL_law 934 = .ok (.iadd, 1) := by decide +kernel
theorem dL_law_935 : decode cL_law 935 = .ok (.iaload, 1) := by decide +kernel
theorem dL_law_936 : decode cL_law 936 = .ok (.aload_n 0, 1) := by decide +kernel
theorem dL_law_937 : decode cL_law 937 = .ok (.iload_n 3, 1) := by decide +kernel
theorem dL_law_938 : decode cL_law 938 = .ok (.iconst 3, 1) := by decide +kernel
theorem dL_law_939 : decode cL_law 939 = .ok (.iadd, 1) := by decide +kernel
theorem dL_law_940 : decode cL_law 940 = .ok (.iaload, 1) := by decide +kernel
theorem dL_law_941 : decode cL_law 941 = .ok (.invokevirtual 126, 3) := by decide +kernel
theorem dL_law_944 : decode cL_law 944 = .ok (.aload_n 2, 1) := by decide +kernel
theorem dL_law_945 : decode cL_law 945 = .ok (.aload_n 0, 1) := by decide +kernel
theorem dL_law_946 : decode cL_law 946 = .ok (.iload_n 3, 1) := by decide +kernel
theorem dL_law_947 : decode cL_law 947 = .ok (.iconst 1, 1) := by decide +kernel
theorem dL_law_948 : decode cL_law 948 = .ok (.iadd, 1) := by decide +kernel
theorem dL_law_949 : decode cL_law 949 = .ok (.iaload, 1) := by decide +kernel
theorem dL_law_950 : decode cL_law 950 = .ok (.aload_n 0, 1) := by decide +kernel
theorem dL_law_951 : decode cL_law 951 = .ok (.iload_n 3, 1) := by decide +kernel
theorem dL_law_952 : decode cL_law 952 = .ok (.iconst 2, 1) := by decide +kernel
theorem dL_law_953 : decode cL_law 953 = .ok (.iadd, 1) := by decide +kernel
theorem dL_law_954 : decode cL_law 954 = .ok (.iaload, 1) := by decide +kernel
theorem dL_law_955 : decode cL_law 955 = .ok (.aload_n 0, 1) := by decide +kernel
theorem dL_law_956 : decode cL_law 956 = .ok (.iload_n 3, 1) := by decide +kernel
theorem dL_law_957 : decode cL_law 957 = .ok (.iconst 3, 1) := by decide +kernel
theorem dL_law_958 : decode cL_law 958 = .ok (.iadd, 1) := by decide +kernel
theorem dL_law_959 : decode cL_law 959 = .ok (.iaload, 1) := by decide +kernel
theorem dL_law_960 : decode cL_law 960 = .ok (.invokevirtual 129, 3) := by decide +kernel
theorem dL_law_963 : decode cL_law 963 = .ok (.if_icmp .eq 135, 3) := by decide +kernel
theorem dL_law_966 : decode cL_law 966 = .ok (.iconst 0, 1) := by decide +kernel
theorem dL_law_967 : decode cL_law 967 = .ok (.ireturn, 1) := by decide +kernel
theorem dL_law_968 : decode cL_law 968 = .ok (.aload_n 1, 1) := by decide +kernel
theorem dL_law_969 : decode cL_law 969 = .ok (.aload_n 0, 1) := by decide +kernel
theorem dL_law_970 : decode cL_law 970 = .ok (.iload_n 3, 1) := by decide +kernel
theorem dL_law_971 : decode cL_law 971 = .ok (.iconst 1, 1) := by decide +kernel
theorem dL_law_972 : decode cL_law 972 = .ok (.iadd, 1) := by decide +kernel
theorem dL_law_973 : decode cL_law 973 = .ok (.iaload, 1) := by decide +kernel
theorem dL_law_974 : decode cL_law 974 = .ok (.invokevirtual 130, 3) := by decide +kernel
theorem dL_law_977 : decode cL_law 977 = .ok (.aload_n 2, 1) := by decide +kernel
theorem dL_law_978 : decode cL_law 978 = .ok (.aload_n 0, 1) := by decide +kernel
theorem dL_law_979 : decode cL_law 979 = .ok (.iload_n 3, 1) := by decide +kernel
theorem dL_law_980 : decode cL_law 980 = .ok (.iconst 1, 1) := by decide +kernel
theorem dL_law_981 : decode cL_law 981 = .ok (.iadd, 1) := by decide +kernel
theorem dL_law_982 : decode cL_law 982 = .ok (.iaload, 1) := by decide +kernel
theorem dL_law_983 : decode cL_law 983 = .ok (.invokevirtual 134, 3) := by decide +kernel
theorem dL_law_986 : decode cL_law 986 = .ok (.lcmp, 1) := by decide +kernel
theorem dL_law_987 : decode cL_law 987 = .ok (.ifCond .eq 111, 3) := by decide +kernel
theorem dL_law_990 : decode cL_law 990 = .ok (.iconst 0, 1) := by decide +kernel
theorem dL_law_991 : decode cL_law 991 = .ok (.ireturn, 1) := by decide +kernel
theorem dL_law_992 : decode cL_law 992 = .ok (.aload_n 1, 1) := by decide +kernel
theorem dL_law_993 : decode cL_law 993 = .ok (.aload_n 0, 1) := by decide +kernel
theorem dL_law_994 : decode cL_law 994 = .ok (.iload_n 3, 1) := by decide +kernel
theorem dL_law_995 : decode cL_law 995 = .ok (.iconst 1, 1) := by decide +kernel
theorem dL_law_996 : decode cL_law 996 = .ok (.iadd, 1) := by decide +kernel
theorem dL_law_997 : decode cL_law 997 = .ok (.iaload, 1) := by decide +kernel
theorem dL_law_998 : decode cL_law 998 = .ok (.invokevirtual 135, 3) := by decide +kernel
theorem dL_law_1001 : decode cL_law 1001 = .ok (.aload_n 2, 1) := by decide +kernel
theorem dL_law_1002 : decode cL_law 1002 = .ok (.aload_n 0, 1) := by decide +kernel
theorem dL_law_1003 : decode cL_law 1003 = .ok (.iload_n 3, 1) := by decide +kernel
theorem dL_law_1004 : decode cL_law 1004 = .ok (.iconst 1, 1) := by decide +kernel
theorem dL_law_1005 : decode cL_law 1005 = .ok (.iadd, 1) := by decide +kernel
theorem dL_law_1006 : decode cL_law 1006 = .ok (.iaload, 1) := by decide +kernel
theorem dL_law_1007 : decode cL_law 1007 = .ok (.invokevirtual 138, 3) := by decide +kernel
theorem dL_law_1010 : decode cL_law 1010 = .ok (.if_icmp .eq 88, 3) := by decide +kernel
theorem dL_law_1013 : decode cL_law 1013 = .ok (.iconst 0, 1) := by decide +kernel
theorem dL_law_1014 : decode cL_law 1014 = .ok (.ireturn, 1) := by decide +kernel
theorem dL_law_1015 : decode cL_law 1015 = .ok (.aload_n 1, 1) := by decide +kernel
theorem dL_law_1016 : decode cL_law 1016 = .ok (.aload_n 0, 1) := by decide +kernel
theorem dL_law_1017 : decode cL_law 1017 = .ok (.iload_n 3, 1) := by decide +kernel
theorem dL_law_1018 : decode cL_law 1018 = .ok (.iconst 1, 1) := by decide +kernel
theorem dL_law_1019 : decode cL_law 1019 = .ok (.iadd, 1) := by decide +kernel
theorem dL_law_1020 : decode cL_law 1020 = .ok (.iaload, 1) := by decide +kernel
theorem dL_law_1021 : decode cL_law 1021 = .ok (.invokevirtual 139, 3) := by decide +kernel
theorem dL_law_1024 : decode cL_law 1024 = .ok (.aload_n 2, 1) := by decide +kernel
theorem dL_law_1025 : decode cL_law 1025 = .ok (.aload_n 0, 1) := by decide +kernel
theorem dL_law_1026 : decode cL_law 1026 = .ok (.iload_n 3, 1) := by decide +kernel
theorem dL_law_1027 : decode cL_law 1027 = .ok (.iconst 1, 1) := by decide +kernel
theorem dL_law_1028 : decode cL_law 1028 = .ok (.iadd, 1) := by decide +kernel
theorem dL_law_1029 : decode cL_law 1029 = .ok (.iaload, 1) := by decide +kernel
theorem dL_law_1030 : decode cL_law 1030 = .ok (.invokevirtual 142, 3) := by decide +kernel
theorem dL_law_1033 : decode cL_law 1033 = .ok (.if_icmp .eq 65, 3) := by decide +kernel
theorem dL_law_1036 : decode cL_law 1036 = .ok (.iconst 0, 1) := by decide +kernel
theorem dL_law_1037 : decode cL_law 1037 = .ok (.ireturn, 1) := by decide +kernel
theorem dL_law_1038 : decode cL_law 1038 = .ok (.aload_n 1, 1) := by decide +kernel
theorem dL_law_1039 : decode cL_law 1039 = .ok (.aload_n 0, 1) := by decide +kernel
theorem dL_law_1040 : decode cL_law 1040 = .ok (.iload_n 3, 1) := by decide +kernel
theorem dL_law_1041 : decode cL_law 1041 = .ok (.iconst 1, 1) := by decide +kernel
theorem dL_law_1042 : decode cL_law 1042 = .ok (.iadd, 1) := by decide +kernel
theorem dL_law_1043 : decode cL_law 1043 = .ok (.iaload, 1) := by decide +kernel
theorem dL_law_1044 : decode cL_law 1044 = .ok (.invokevirtual 143, 3) := by decide +kernel
theorem dL_law_1047 : decode cL_law 1047 = .ok (.aload_n 2, 1) := by decide +kernel
theorem dL_law_1048 : decode cL_law 1048 = .ok (.aload_n 0, 1) := by decide +kernel
theorem dL_law_1049 : decode cL_law 1049 = .ok (.iload_n 3, 1) := by decide +kernel
theorem dL_law_1050 : decode cL_law 1050 = .ok (.iconst 1, 1) := by decide +kernel
theorem dL_law_1051 : decode cL_law 1051 = .ok (.iadd, 1) := by decide +kernel
theorem dL_law_1052 : decode cL_law 1052 = .ok (.iaload, 1) := by decide +kernel
theorem dL_law_1053 : decode cL_law 1053 = .ok (.invokevirtual 146, 3) := by decide +kernel
theorem dL_law_1056 : decode cL_law 1056 = .ok (.if_icmp .eq 42, 3) := by decide +kernel
theorem dL_law_1059 : decode cL_law 1059 = .ok (.iconst 0, 1) := by decide +kernel
theorem dL_law_1060 : decode cL_law 1060 = .ok (.ireturn, 1) := by decide +kernel
theorem dL_law_1061 : decode cL_law 1061 = .ok (.aload_n 1, 1) := by decide +kernel
theorem dL_law_1062 : decode cL_law 1062 = .ok (.aload_n 0, 1) := by decide +kernel
theorem dL_law_1063 : decode cL_law 1063 = .ok (.iload_n 3, 1) := by decide +kernel
theorem dL_law_1064 : decode cL_law 1064 = .ok (.iconst 1, 1) := by decide +kernel
theorem dL_law_1065 : decode cL_law 1065 = .ok (.iadd, 1) := by decide +kernel
theorem dL_law_1066 : decode cL_law 1066 = .ok (.iaload, 1) := by decide +kernel
theorem dL_law_1067 : decode cL_law 1067 = .ok (.invokevirtual 147, 3) := by decide +kernel
theorem dL_law_1070 : decode cL_law 1070 = .ok (.aload_n 2, 1) := by decide +kernel
theorem dL_law_1071 : decode cL_law 1071 = .ok (.aload_n 0, 1) := by decide +kernel
theorem dL_law_1072 : decode cL_law 1072 = .ok (.iload_n 3, 1) := by decide +kernel
theorem dL_law_1073 : decode cL_law 1073 = .ok (.iconst 1, 1) := by decide +kernel
theorem dL_law_1074 : decode cL_law 1074 = .ok (.iadd, 1) := by decide +kernel
theorem dL_law_1075 : decode cL_law 1075 = .ok (.iaload, 1) := by decide +kernel
theorem dL_law_1076 : decode cL_law 1076 = .ok (.invokevirtual 150, 3) := by decide +kernel
theorem dL_law_1079 : decode cL_law 1079 = .ok (.if_icmp .eq 19, 3) := by decide +kernel
theorem dL_law_1082 : decode cL_law 1082 = .ok (.iconst 0, 1) := by decide +kernel
theorem dL_law_1083 : decode cL_law 1083 = .ok (.ireturn, 1) := by decide +kernel
theorem dL_law_1084 : decode cL_law 1084 = .ok (.aload_n 1, 1) := by decide +kernel
theorem dL_law_1085 : decode cL_law 1085 = .ok (.invokevirtual 151, 3) := by decide +kernel
theorem dL_law_1088 : decode cL_law 1088 = .ok (.aload_n 2, 1) := by decide +kernel
theorem dL_law_1089 : decode cL_law 1089 = .ok (.invokevirtual 155, 3) := by decide +kernel
theorem dL_law_1092 : decode cL_law 1092 = .ok (.lcmp, 1) := by decide +kernel
theorem dL_law_1093 : decode cL_law 1093 = .ok (.ifCond .eq 5, 3) := by decide +kernel
theorem dL_law_1096 : decode cL_law 1096 = .ok (.iconst 0, 1) := by decide +kernel
theorem dL_law_1097 : decode cL_law 1097 = .ok (.ireturn, 1) := by decide +kernel
theorem dL_law_1098 : decode cL_law 1098 = .ok (.iinc 3 6, 3) := by decide +kernel
theorem dL_law_1101 : decode cL_law 1101 = .ok (.goto (-1083), 3) := by decide +kernel
theorem dL_law_1104 : decode cL_law 1104 = .ok (.iconst 1, 1) := by decide +kernel
theorem dL_law_1105 : decode cL_law 1105 = .ok (.ireturn, 1) := by decide +kernel
