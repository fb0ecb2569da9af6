theorem d_Mod_init_0 : decode b_Mod_init 0 = .ok (.aload_n 0, 1) := by decide +kernel
theorem d_Mod_init_1 : decode b_Mod_init 1 = .ok (.invokespecial 1, 3) := by decide +kernel
theorem d_Mod_init_4 : decode b_Mod_init 4 = .ok (.aload_n 0, 1) := by decide +kernel
theorem d_Mod_init_5 : decode b_Mod_init 5 = .ok (.sipush 6200, 3) := by decide +kernel
theorem d_Mod_init_8 : decode b_Mod_init 8 = .ok (.newarray .int, 2) := by decide +kernel
theorem d_Mod_init_10 : decode b_Mod_init 10 = .ok (.putfield 7, 3) := by decide +kernel
theorem d_Mod_init_13 : decode b_Mod_init 13 = .ok (.aload_n 0, 1) := by decide +kernel
theorem d_Mod_init_14 : decode b_Mod_init 14 = .ok (.sipush 6200, 3) := by decide +kernel
theorem d_Mod_init_17 : decode b_Mod_init 17 = .ok (.newarray .int, 2) := by decide +kernel
theorem d_Mod_init_19 : decode b_Mod_init 19 = .ok (.putfield 13, 3) := by decide +kernel
theorem d_Mod_init_22 : decode b_Mod_init 22 = .ok (.aload_n 0, 1) := by decide +kernel
theorem d_Mod_init_23 : decode b_Mod_init 23 = .ok (.sipush 6200, 3) := by decide +kernel
theorem d_Mod_init_26 : decode b_Mod_init 26 = .ok (.newarray .int, 2) := by decide +kernel
theorem d_Mod_init_28 : decode b_Mod_init 28 = .ok (.putfield 16, 3) := by decide +kernel
theorem d_Mod_init_31 : decode b_Mod_init 31 = .ok (.aload_n 0, 1) := by decide +kernel
theorem d_Mod_init_32 : decode b_Mod_init 32 = .ok (.sipush 6200, 3) := by decide +kernel
theorem d_Mod_init_35 : decode b_Mod_init 35 = .ok (.newarray .int, 2) := by decide +kernel
theorem d_Mod_init_37 : decode b_Mod_init 37 = .ok (.putfield 19, 3) := by decide +kernel
theorem d_Mod_init_40 : decode b_Mod_init 40 = .ok (.aload_n 0, 1) := by decide +kernel
theorem d_Mod_init_41 : decode b_Mod_init 41 = .ok (.sipush 6200, 3) := by decide +kernel
theorem d_Mod_init_44 : decode b_Mod_init 44 = .ok (.newarray .int, 2) := by decide +kernel
theorem d_Mod_init_46 : decode b_Mod_init 46 = .ok (.putfield 22, 3) := by decide +kernel
theorem d_Mod_init_49 : decode b_Mod_init 49 = .ok (.aload_n 0, 1) := by decide +kernel
theorem d_Mod_init_50 : decode b_Mod_init 50 = .ok (.sipush 6200, 3) := by decide +kernel
theorem d_Mod_init_53 : decode b_Mod_init 53 = .ok (.newarray .int, 2) := by decide +kernel
theorem d_Mod_init_55 : decode b_Mod_init 55 = .ok (.putfield 25, 3) := by decide +kernel
theorem d_Mod_init_58 : decode b_Mod_init 58 = .ok (.aload_n 0, 1) := by decide +kernel
theorem d_Mod_init_59 : decode b_Mod_init 59 = .ok (.sipush 6200, 3) := by decide +kernel
theorem d_Mod_init_62 : decode b_Mod_init 62 = .ok (.newarray .int, 2) := by decide +kernel
theorem d_Mod_init_64 : decode b_Mod_init 64 = .ok (.putfield 28, 3) := by decide +kernel
theorem d_Mod_init_67 : decode b_Mod_init 67 = .ok (.aload_n 0, 1) := by decide +kernel
theorem d_Mod_init_68 : decode b_Mod_init 68 = .ok (.bipush 101, 2) := by decide +kernel
theorem d_Mod_init_70 : decode b_Mod_init 70 = .ok (.newarray .int, 2) := by decide +kernel
theorem d_Mod_init_72 : decode b_Mod_init 72 = .ok (.putfield 31, 3) := by decide +kernel
theorem d_Mod_init_75 : decode b_Mod_init 75 = .ok (.aload_n 0, 1) := by decide +kernel
theorem d_Mod_init_76 : decode b_Mod_init 76 = .ok (.bipush 101, 2) := by decide +kernel
theorem d_Mod_init_78 : decode b_Mod_init 78 = .ok (.newarray .boolean, 2) := by decide +kernel
theorem d_Mod_init_80 : decode b_Mod_init 80 = .ok (.putfield 34, 3) := by decide +kernel
theorem d_Mod_init_83 : decode b_Mod_init 83 = .ok (.aload_n 0, 1) := by decide +kernel
theorem d_Mod_init_84 : decode b_Mod_init 84 = .ok (.bipush 8, 2) := by decide +kernel
theorem d_Mod_init_86 : decode b_Mod_init 86 = .ok (.newarray .int, 2) := by decide +kernel
theorem d_Mod_init_88 : decode b_Mod_init 88 = .ok (.putfield 38, 3) := by decide +kernel
theorem d_Mod_init_91 : decode b_Mod_init 91 = .ok (.aload_n 0, 1) := by decide +kernel
theorem d_Mod_init_92 : decode b_Mod_init 92 = .ok (.bipush 32, 2) := by decide +kernel
theorem d_Mod_init_94 : decode b_Mod_init 94 = .ok (.newarray .int, 2) := by decide +kernel
theorem d_Mod_init_96 : decode b_Mod_init 96 = .ok (.putfield 41, 3) := by decide +kernel
theorem d_Mod_init_99 : decode b_Mod_init 99 = .ok (.aload_n 0, 1) := by decide +kernel
theorem d_Mod_init_100 : decode b_Mod_init 100 = .ok (.bipush 32, 2) := by decide +kernel
theorem d_Mod_init_102 : decode b_Mod_init 102 = .ok (.newarray .int, 2) := by decide +kernel
theorem d_Mod_init_104 : decode b_Mod_init 104 = .ok (.putfield 44, 3) := by decide +kernel
theorem d_Mod_init_107 : decode b_Mod_init 107 = .ok (.aload_n 0, 1) := by decide +kernel
theorem d_Mod_init_108 : decode b_Mod_init 108 = .ok (.bipush 32, 2) := by decide +kernel
theorem d_Mod_init_110 : decode b_Mod_init 110 = .ok (.newarray .boolean, 2) := by decide +kernel
theorem d_Mod_init_112 : decode b_Mod_init 112 = .ok (.putfield 47, 3) := by decide +kernel
theorem d_Mod_init_115 : decode b_Mod_init 115 = .ok (.aload_n 0, 1) := by decide +kernel
theorem d_Mod_init_116 : decode b_Mod_init 116 = .ok (.bipush 32, 2) := by decide +kernel
theorem d_Mod_init_118 : decode b_Mod_init 118 = .ok (.newarray .boolean, 2) := by decide +kernel
theorem d_Mod_init_120 : decode b_Mod_init 120 = .ok (.putfield 50, 3) := by decide +kernel
theorem d_Mod_init_123 : decode b_Mod_init 123 = .ok (.aload_n 0, 1) := by decide +kernel
theorem d_Mod_init_124 : decode b_Mod_init 124 = .ok (.ldc 53, 2) := by decide +kernel
theorem d_Mod_init_126 : decode b_Mod_init 126 = .ok (.newarray .byte, 2) := by decide +kernel
theorem d_Mod_init_128 : decode b_Mod_init 128 = .ok (.putfield 54, 3) := by decide +kernel
theorem d_Mod_init_131 : decode b_Mod_init 131 = .ok (.aload_n 0, 1) := by decide +kernel
theorem d_Mod_init_132 : decode b_Mod_init 132 = .ok (.iconst (-1), 1) := by decide +kernel
theorem d_Mod_init_133 : decode b_Mod_init 133 = .ok (.putfield 58, 3) := by decide +kernel
theorem d_Mod_init_136 : decode b_Mod_init 136 = .ok (.aload_n 0, 1) := by decide +kernel
theorem d_Mod_init_137 : decode b_Mod_init 137 = .ok (.sipush 3100, 3) := by decide +kernel
theorem d_Mod_init_140 : decode b_Mod_init 140 = .ok (.newarray .int, 2) := by decide +kernel
theorem d_Mod_init_142 : decode b_Mod_init 142 = .ok (.putfield 62, 3) := by decide +kernel
theorem d_Mod_init_145 : decode b_Mod_init 145 = .ok (.aload_n 0, 1) := by decide +kernel
theorem d_Mod_init_146 : decode b_Mod_init 146 = .ok (.sipush 3100, 3) := by decide +kernel
theorem d_Mod_init_149 : decode b_Mod_init 149 = .ok (.newarray .int, 2) := by decide +kernel
theorem d_Mod_init_151 : decode b_Mod_init 151 = .ok (.putfield 65, 3) := by decide +kernel
theorem d_Mod_init_154 : decode b_Mod_init 154 = .ok (.aload_n 0, 1) := by decide +kernel
theorem d_Mod_init_155 : decode b_Mod_init 155 = .ok (.bipush 102, 2) := by decide +kernel
theorem d_Mod_init_157 : decode b_Mod_init 157 = .ok (.newarray .int, 2) := by decide +kernel
theorem d_Mod_init_159 : decode b_Mod_init 159 = .ok (.putfield 68, 3) := by decide +kernel
theorem d_Mod_init_162 : decode b_Mod_init 162 = .ok (.aload_n 0, 1) := by decide +kernel
theorem d_Mod_init_163 : decode b_Mod_init 163 = .ok (.bipush 102, 2) := by decide +kernel
theorem d_Mod_init_165 : decode b_Mod_init 165 = .ok (.newarray .long, 2) := by decide +kernel
theorem d_Mod_init_167 : decode b_Mod_init 167 = .ok (.putfield 71, 3) := by decide +kernel
theorem d_Mod_init_170 : decode b_Mod_init 170 = .ok (.aload_n 0, 1) := by decide +kernel
theorem d_Mod_init_171 : decode b_Mod_init 171 = .ok (.sipush 816, 3) := by decide +kernel
theorem d_Mod_init_174 : decode b_Mod_init 174 = .ok (.newarray .int, 2) := by decide +kernel
theorem d_Mod_init_176 : decode b_Mod_init 176 = .ok (.putfield 75, 3) := by decide +kernel
theorem d_Mod_init_179 : decode b_Mod_init 179 = .ok (.aload_n 0, 1) := by decide +kernel
theorem d_Mod_init_180 : decode b_Mod_init 180 = .ok (.bipush 8, 2) := by decide +kernel
theorem d_Mod_init_182 : decode b_Mod_init 182 = .ok (.newarray .int, 2) := by decide +kernel
theorem d_Mod_init_184 : decode b_Mod_init 184 = .ok (.putfield 78, 3) := by decide +kernel
theorem d_Mod_init_187 : decode b_Mod_init 187 = .ok (.return_, 1) := by decide +kernel
theorem d_Mod_thrown_0 : decode b_Mod_thrown 0 = .ok (.aload_n 0, 1) := by decide +kernel
theorem d_Mod_thrown_1 : decode b_Mod_thrown 1 = .ok (.getfield 81, 3) := by decide +kernel
theorem d_Mod_thrown_4 : decode b_Mod_thrown 4 = .ok (.ireturn, 1) := by decide +kernel
theorem d_Mod_isSize_0 : decode b_Mod_isSize 0 = .ok (.iload_n 0, 1) := by decide +kernel
theorem d_Mod_isSize_1 : decode b_Mod_isSize 1 = .ok (.ldc 84, 2) := by decide +kernel
theorem d_Mod_isSize_3 : decode b_Mod_isSize 3 = .ok (.if_icmp .lt 13, 3) := by decide +kernel
theorem d_Mod_isSize_6 : decode b_Mod_isSize 6 = .ok (.iload_n 0, 1) := by decide +kernel
theorem d_Mod_isSize_7 : decode b_Mod_isSize 7 = .ok (.ldc 85, 2) := by decide +kernel
theorem d_Mod_isSize_9 : decode b_Mod_isSize 9 = .ok (.if_icmp .gt 7, 3) := by decide +kernel
theorem d_Mod_isSize_12 : decode b_Mod_isSize 12 = .ok (.iconst 1, 1) := by decide +kernel
theorem d_Mod_isSize_13 : decode b_Mod_isSize 13 = .ok (.goto 4, 3) := by decide +kernel
theorem d_Mod_isSize_16 : decode b_Mod_isSize 16 = .ok (.iconst 0, 1) := by decide +kernel
theorem d_Mod_isSize_17 : decode b_Mod_isSize 17 = .ok (.ireturn, 1) := by decide +kernel
theorem d_Mod_isSizeLong_0 : decode b_Mod_isSizeLong 0 = .ok (.lload_n 0, 1) := by decide +kernel
theorem d_Mod_isSizeLong_1 : decode b_Mod_isSizeLong 1 = .ok (.ldc2_w 86, 3) := by decide +kernel
theorem d_Mod_isSizeLong_4 : decode b_Mod_isSizeLong 4 = .ok (.lcmp, 1) := by decide +kernel
theorem d_Mod_isSizeLong_5 : decode b_Mod_isSizeLong 5 = .ok (.ifCond .lt 15, 3) := by decide +kernel
theorem d_Mod_isSizeLong_8 : decode b_Mod_isSizeLong 8 = .ok (.lload_n 0, 1) := by decide +kernel
theorem d_Mod_isSizeLong_9 : decode b_Mod_isSizeLong 9 = .ok (.ldc2_w 88, 3) := by decide +kernel
theorem d_Mod_isSizeLong_12 : decode b_Mod_isSizeLong 12 = .ok (.lcmp, 1) := by decide +kernel
theorem d_Mod_isSizeLong_13 : decode b_Mod_isSizeLong 13 = .ok (.ifCond .gt 7, 3) := by decide +kernel
theorem d_Mod_isSizeLong_16 : decode b_Mod_isSizeLong 16 = .ok (.iconst 1, 1) := by decide +kernel
theorem d_Mod_isSizeLong_17 : decode b_Mod_isSizeLong 17 = .ok (.goto 4, 3) := by decide +kernel
theorem d_Mod_isSizeLong_20 : decode b_Mod_isSizeLong 20 = .ok (.iconst 0, 1) := by decide +kernel
theorem d_Mod_isSizeLong_21 : decode b_Mod_isSizeLong 21 = .ok (.ireturn, 1) := by decide +kernel
theorem d_Mod_shelved_0 : decode b_Mod_shelved 0 = .ok (.iconst 0, 1) := by decide +kernel
theorem d_Mod_shelved_1 : decode b_Mod_shelved 1 = .ok (.istore_n 1, 1) := by decide +kernel
theorem d_Mod_shelved_2 : decode b_Mod_shelved 2 = .ok (.iconst 0, 1) := by decide +kernel
theorem d_Mod_shelved_3 : decode b_Mod_shelved 3 = .ok (.istore_n 2, 1) := by decide +kernel
theorem d_Mod_shelved_4 : decode b_Mod_shelved 4 = .ok (.iload_n 2, 1) := by decide +kernel
theorem d_Mod_shelved_5 : decode b_Mod_shelved 5 = .ok (.bipush 8, 2) := by decide +kernel
theorem d_Mod_shelved_7 : decode b_Mod_shelved 7 = .ok (.if_icmp .ge 18, 3) := by decide +kernel
theorem d_Mod_shelved_10 : decode b_Mod_shelved 10 = .ok (.iload_n 1, 1) := by decide +kernel
theorem d_Mod_shelved_11 : decode b_Mod_shelved 11 = .ok (.aload_n 0, 1) := by decide +kernel
theorem d_Mod_shelved_12 : decode b_Mod_shelved 12 = .ok (.getfield 38, 3) := by decide +kernel
theorem d_Mod_shelved_15 : decode b_Mod_shelved 15 = .ok (.iload_n 2, 1) := by decide +kernel
theorem d_Mod_shelved_16 : decode b_Mod_shelved 16 = .ok (.iaload, 1) := by decide +kernel
theorem d_Mod_shelved_17 : decode b_Mod_shelved 17 = .ok (.iadd, 1) := by decide +kernel
theorem d_Mod_shelved_18 : decode b_Mod_shelved 18 = .ok (.istore_n 1, 1) := by decide +kernel
theorem d_Mod_shelved_19 : decode b_Mod_shelved 19 = .ok (.iinc 2 1, 3) := by decide +kernel
theorem d_Mod_shelved_22 : decode b_Mod_shelved 22 = .ok (.goto (-18), 3) := by decide +kernel
theorem d_Mod_shelved_25 : decode b_Mod_shelved 25 = .ok (.iload_n 1, 1) := by decide +kernel
theorem d_Mod_shelved_26 : decode b_Mod_shelved 26 = .ok (.ireturn, 1) := by decide +kernel
theorem d_Mod_hasRoom_0 : decode b_Mod_hasRoom 0 = .ok (.aload_n 0, 1) := by decide +kernel
theorem d_Mod_hasRoom_1 : decode b_Mod_hasRoom 1 = .ok (.getfield 90, 3) := by decide +kernel
theorem d_Mod_hasRoom_4 : decode b_Mod_hasRoom 4 = .ok (.aload_n 0, 1) := by decide +kernel
theorem d_Mod_hasRoom_5 : decode b_Mod_hasRoom 5 = .ok (.invokevirtual 93, 3) := by decide +kernel
theorem d_Mod_hasRoom_8 : decode b_Mod_hasRoom 8 = .ok (.iadd, 1) := by decide +kernel
theorem d_Mod_hasRoom_9 : decode b_Mod_hasRoom 9 = .ok (.iload_n 1, 1) := by decide +kernel
theorem d_Mod_hasRoom_10 : decode b_Mod_hasRoom 10 = .ok (.iadd, 1) := by decide +kernel
theorem d_Mod_hasRoom_11 : decode b_Mod_hasRoom 11 = .ok (.sipush 3000, 3) := by decide +kernel
theorem d_Mod_hasRoom_14 : decode b_Mod_hasRoom 14 = .ok (.if_icmp .gt 7, 3) := by decide +kernel
theorem d_Mod_hasRoom_17 : decode b_Mod_hasRoom 17 = .ok (.iconst 1, 1) := by decide +kernel
theorem d_Mod_hasRoom_18 : decode b_Mod_hasRoom 18 = .ok (.goto 4, 3) := by decide +kernel
theorem d_Mod_hasRoom_21 : decode b_Mod_hasRoom 21 = .ok (.iconst 0, 1) := by decide +kernel
theorem d_Mod_hasRoom_22 : decode b_Mod_hasRoom 22 = .ok (.ireturn, 1) := by decide +kernel
theorem d_Mod_start_0 : decode b_Mod_start 0 = .ok (.sipush 3100, 3) := by decide +kernel
theorem d_Mod_start_3 : decode b_Mod_start 3 = .ok (.istore_n 2, 1) := by decide +kernel
theorem d_Mod_start_4 : decode b_Mod_start 4 = .ok (.iconst 0, 1) := by decide +kernel
theorem d_Mod_start_5 : decode b_Mod_start 5 = .ok (.istore_n 3, 1) := by decide +kernel
theorem d_Mod_start_6 : decode b_Mod_start 6 = .ok (.iload_n 3, 1) := by decide +kernel
theorem d_Mod_start_7 : decode b_Mod_start 7 = .ok (.iload_n 1, 1) := by decide +kernel
theorem d_Mod_start_8 : decode b_Mod_start 8 = .ok (.if_icmp .ge 18, 3) := by decide +kernel
theorem d_Mod_start_11 : decode b_Mod_start 11 = .ok (.iload_n 2, 1) := by decide +kernel
theorem d_Mod_start_12 : decode b_Mod_start 12 = .ok (.aload_n 0, 1) := by decide +kernel
theorem d_Mod_start_13 : decode b_Mod_start 13 = .ok (.getfield 38, 3) := by decide +kernel
theorem d_Mod_start_16 : decode b_Mod_start 16 = .ok (.iload_n 3, 1) := by decide +kernel
theorem d_Mod_start_17 : decode b_Mod_start 17 = .ok (.iaload, 1) := by decide +kernel
theorem d_Mod_start_18 : decode b_Mod_start 18 = .ok (.iadd, 1) := by decide +kernel
theorem d_Mod_start_19 : decode b_Mod_start 19 = .ok (.istore_n 2, 1) := by decide +kernel
theorem d_Mod_start_20 : decode b_Mod_start 20 = .ok (.iinc 3 1, 3) := by decide +kernel
theorem d_Mod_start_23 : decode b_Mod_start 23 = .ok (.goto (-17), 3) := by decide +kernel
theorem d_Mod_start_26 : decode b_Mod_start 26 = .ok (.iload_n 2, 1) := by decide +kernel
theorem d_Mod_start_27 : decode b_Mod_start 27 = .ok (.ireturn, 1) := by decide +kernel
theorem d_Mod_move_0 : decode b_Mod_move 0 = .ok (.aload_n 0, 1) := by decide +kernel
theorem d_Mod_move_1 : decode b_Mod_move 1 = .ok (.getfield 7, 3) := by decide +kernel
theorem d_Mod_move_4 : decode b_Mod_move 4 = .ok (.iload_n 2, 1) := by decide +kernel
theorem d_Mod_move_5 : decode b_Mod_move 5 = .ok (.aload_n 0, 1) := by decide +kernel
theorem d_Mod_move_6 : decode b_Mod_move 6 = .ok (.getfield 7, 3) := by decide +kernel
theorem d_Mod_move_9 : decode b_Mod_move 9 = .ok (.iload_n 1, 1) := by decide +kernel
theorem d_Mod_move_10 : decode b_Mod_move 10 = .ok (.iaload, 1) := by decide +kernel
theorem d_Mod_move_11 : decode b_Mod_move 11 = .ok (.iastore, 1) := by decide +kernel
theorem d_Mod_move_12 : decode b_Mod_move 12 = .ok (.aload_n 0, 1) := by decide +kernel
theorem d_Mod_move_13 : decode b_Mod_move 13 = .ok (.getfield 13, 3) := by decide +kernel
theorem d_Mod_move_16 : decode b_Mod_move 16 = .ok (.iload_n 2, 1) := by decide +kernel
theorem d_Mod_move_17 : decode b_Mod_move 17 = .ok (.aload_n 0, 1) := by decide +kernel
theorem d_Mod_move_18 : decode b_Mod_move 18 = .ok (.getfield 13, 3) := by decide +kernel
theorem d_Mod_move_21 : decode b_Mod_move 21 = .ok (.iload_n 1, 1) := by decide +kernel
theorem d_Mod_move_22 : decode b_Mod_move 22 = .ok (.iaload, 1) := by decide +kernel
theorem d_Mod_move_23 : decode b_Mod_move 23 = .ok (.iastore, 1) := by decide +kernel
theorem d_Mod_move_24 : decode b_Mod_move 24 = .ok (.aload_n 0, 1) := by decide +kernel
theorem d_Mod_move_25 : decode b_Mod_move 25 = .ok (.getfield 16, 3) := by decide +kernel
theorem d_Mod_move_28 : decode b_Mod_move 28 = .ok (.iload_n 2, 1) := by decide +kernel
theorem d_Mod_move_29 : decode b_Mod_move 29 = .ok (.aload_n 0, 1) := by decide +kernel
theorem d_Mod_move_30 : decode b_Mod_move 30 = .ok (.getfield 16, 3) := by decide +kernel
theorem d_Mod_move_33 : decode b_Mod_move 33 = .ok (.iload_n 1, 1) := by decide +kernel
theorem d_Mod_move_34 : decode b_Mod_move 34 = .ok (.iaload, 1) := by decide +kernel
theorem d_Mod_move_35 : decode b_Mod_move 35 = .ok (.iastore, 1) := by decide +kernel
theorem d_Mod_move_36 : decode b_Mod_move 36 = .ok (.aload_n 0, 1) := by decide +kernel
theorem d_Mod_move_37 : decode b_Mod_move 37 = .ok (.getfield 19, 3) := by decide +kernel
theorem d_Mod_move_40 : decode b_Mod_move 40 = .ok (.iload_n 2, 1) := by decide +kernel
theorem d_Mod_move_41 : decode b_Mod_move 41 = .ok (.aload_n 0, 1) := by decide +kernel
theorem d_Mod_move_42 : decode b_Mod_move 42 = .ok (.getfield 19, 3) := by decide +kernel
theorem d_Mod_move_45 : decode b_Mod_move 45 = .ok (.iload_n 1, 1) := by decide +kernel
theorem d_Mod_move_46 : decode b_Mod_move 46 = .ok (.iaload, 1) := by decide +kernel
theorem d_Mod_move_47 : decode b_Mod_move 47 = .ok (.iastore, 1) := by decide +kernel
theorem d_Mod_move_48 : decode b_Mod_move 48 = .ok (.aload_n 0, 1) := by decide +kernel
theorem d_Mod_move_49 : decode b_Mod_move 49 = .ok (.getfield 22, 3) := by decide +kernel
theorem d_Mod_move_52 : decode b_Mod_move 52 = .ok (.iload_n 2, 1) := by decide +kernel
theorem d_Mod_move_53 : decode b_Mod_move 53 = .ok (.aload_n 0, 1) := by decide +kernel
theorem d_Mod_move_54 : decode b_Mod_move 54 = .ok (.getfield 22, 3) := by decide +kernel
theorem d_Mod_move_57 : decode b_Mod_move 57 = .ok (.iload_n 1, 1) := by decide +kernel
theorem d_Mod_move_58 : decode b_Mod_move 58 = .ok (.iaload, 1) := by decide +kernel
theorem d_Mod_move_59 : decode b_Mod_move 59 = .ok (.iastore, 1) := by decide +kernel
theorem d_Mod_move_60 : decode b_Mod_move 60 = .ok (.aload_n 0, 1) := by decide +kernel
theorem d_Mod_move_61 : decode b_Mod_move 61 = .ok (.getfield 25, 3) := by decide +kernel
theorem d_Mod_move_64 : decode b_Mod_move 64 = .ok (.iload_n 2, 1) := by decide +kernel
theorem d_Mod_move_65 : decode b_Mod_move 65 = .ok (.aload_n 0, 1) := by decide +kernel
theorem d_Mod_move_66 : decode b_Mod_move 66 = .ok (.getfield 25, 3) := by decide +kernel
theorem d_Mod_move_69 : decode b_Mod_move 69 = .ok (.iload_n 1, 1) := by decide +kernel
theorem d_Mod_move_70 : decode b_Mod_move 70 = .ok (.iaload, 1) := by decide +kernel
theorem d_Mod_move_71 : decode b_Mod_move 71 = .ok (.iastore, 1) := by decide +kernel
theorem d_Mod_move_72 : decode b_Mod_move 72 = .ok (.aload_n 0, 1) := by decide +kernel
theorem d_Mod_move_73 : decode b_Mod_move 73 = .ok (.getfield 28, 3) := by decide +kernel
theorem d_Mod_move_76 : decode b_Mod_move 76 = .ok (.iload_n 2, 1) := by decide +kernel
theorem d_Mod_move_77 : decode b_Mod_move 77 = .ok (.aload_n 0, 1) := by decide +kernel
theorem d_Mod_move_78 : decode b_Mod_move 78 = .ok (.getfield 28, 3) := by decide +kernel
theorem d_Mod_move_81 : decode b_Mod_move 81 = .ok (.iload_n 1, 1) := by decide +kernel
theorem d_Mod_move_82 : decode b_Mod_move 82 = .ok (.iaload, 1) := by decide +kernel
theorem d_Mod_move_83 : decode b_Mod_move 83 = .ok (.iastore, 1) := by decide +kernel
theorem d_Mod_move_84 : decode b_Mod_move 84 = .ok (.return_, 1) := by decide +kernel
theorem d_Mod_font_0 : decode b_Mod_font 0 = .ok (.aload_n 0, 1) := by decide +kernel
theorem d_Mod_font_1 : decode b_Mod_font 1 = .ok (.iconst 0, 1) := by decide +kernel
theorem d_Mod_font_2 : decode b_Mod_font 2 = .ok (.putfield 81, 3) := by decide +kernel
theorem d_Mod_font_5 : decode b_Mod_font 5 = .ok (.iload_n 1, 1) := by decide +kernel
theorem d_Mod_font_6 : decode b_Mod_font 6 = .ok (.ifCond .lt 17, 3) := by decide +kernel
theorem d_Mod_font_9 : decode b_Mod_font 9 = .ok (.iload_n 1, 1) := by decide +kernel
theorem d_Mod_font_10 : decode b_Mod_font 10 = .ok (.bipush 31, 2) := by decide +kernel
theorem d_Mod_font_12 : decode b_Mod_font 12 = .ok (.if_icmp .gt 11, 3) := by decide +kernel
theorem d_Mod_font_15 : decode b_Mod_font 15 = .ok (.iload_n 2, 1) := by decide +kernel
theorem d_Mod_font_16 : decode b_Mod_font 16 = .ok (.ifCond .lt 7, 3) := by decide +kernel
theorem d_Mod_font_19 : decode b_Mod_font 19 = .ok (.iload_n 3, 1) := by decide +kernel
theorem d_Mod_font_20 : decode b_Mod_font 20 = .ok (.ifCond .ge 5, 3) := by decide +kernel
theorem d_Mod_font_23 : decode b_Mod_font 23 = .ok (.iconst 0, 1) := by decide +kernel
theorem d_Mod_font_24 : decode b_Mod_font 24 = .ok (.ireturn, 1) := by decide +kernel
theorem d_Mod_font_25 : decode b_Mod_font 25 = .ok (.aload_n 0, 1) := by decide +kernel
theorem d_Mod_font_26 : decode b_Mod_font 26 = .ok (.getfield 41, 3) := by decide +kernel
theorem d_Mod_font_29 : decode b_Mod_font 29 = .ok (.iload_n 1, 1) := by decide +kernel
theorem d_Mod_font_30 : decode b_Mod_font 30 = .ok (.iload_n 2, 1) := by decide +kernel
theorem d_Mod_font_31 : decode b_Mod_font 31 = .ok (.iastore, 1) := by decide +kernel
theorem d_Mod_font_32 : decode b_Mod_font 32 = .ok (.aload_n 0, 1) := by decide +kernel
theorem d_Mod_font_33 : decode b_Mod_font 33 = .ok (.getfield 44, 3) := by decide +kernel
theorem d_Mod_font_36 : decode b_Mod_font 36 = .ok (.iload_n 1, 1) := by decide +kernel
theorem d_Mod_font_37 : decode b_Mod_font 37 = .ok (.iload_n 3, 1) := by decide +kernel
theorem d_Mod_font_38 : decode b_Mod_font 38 = .ok (.iastore, 1) := by decide +kernel
theorem d_Mod_font_39 : decode b_Mod_font 39 = .ok (.iconst 1, 1) := by decide +kernel
theorem d_Mod_font_40 : decode b_Mod_font 40 = .ok (.ireturn, 1) := by decide +kernel
theorem d_Mod_open_0 : decode b_Mod_open 0 = .ok (.aload_n 0, 1) := by decide +kernel
theorem d_Mod_open_1 : decode b_Mod_open 1 = .ok (.iconst 0, 1) := by decide +kernel
theorem d_Mod_open_2 : decode b_Mod_open 2 = .ok (.putfield 81, 3) := by decide +kernel
theorem d_Mod_open_5 : decode b_Mod_open 5 = .ok (.aload_n 0, 1) := by decide +kernel
theorem d_Mod_open_6 : decode b_Mod_open 6 = .ok (.getfield 97, 3) := by decide +kernel
theorem d_Mod_open_9 : decode b_Mod_open 9 = .ok (.bipush 100, 2) := by decide +kernel
theorem d_Mod_open_11 : decode b_Mod_open 11 = .ok (.if_icmp .ne 5, 3) := by decide +kernel
theorem d_Mod_open_14 : decode b_Mod_open 14 = .ok (.iconst 0, 1) := by decide +kernel
theorem d_Mod_open_15 : decode b_Mod_open 15 = .ok (.ireturn, 1) := by decide +kernel
theorem d_Mod_open_16 : decode b_Mod_open 16 = .ok (.aload_n 0, 1) := by decide +kernel
theorem d_Mod_open_17 : decode b_Mod_open 17 = .ok (.getfield 31, 3) := by decide +kernel
theorem d_Mod_open_20 : decode b_Mod_open 20 = .ok (.aload_n 0, 1) := by decide +kernel
theorem d_Mod_open_21 : decode b_Mod_open 21 = .ok (.getfield 97, 3) := by decide +kernel
theorem d_Mod_open_24 : decode b_Mod_open 24 = .ok (.aload_n 0, 1) := by decide +kernel
theorem d_Mod_open_25 : decode b_Mod_open 25 = .ok (.getfield 90, 3) := by decide +kernel
theorem d_Mod_open_28 : decode b_Mod_open 28 = .ok (.iastore, 1) := by decide +kernel
theorem d_Mod_open_29 : decode b_Mod_open 29 = .ok (.aload_n 0, 1) := by decide +kernel
theorem d_Mod_open_30 : decode b_Mod_open 30 = .ok (.getfield 34, 3) := by decide +kernel
theorem d_Mod_open_33 : decode b_Mod_open 33 = .ok (.aload_n 0, 1) := by decide +kernel
theorem d_Mod_open_34 : decode b_Mod_open 34 = .ok (.getfield 97, 3) := by decide +kernel
theorem d_Mod_open_37 : decode b_Mod_open 37 = .ok (.iload_n 1, 1) := by decide +kernel
theorem d_Mod_open_38 : decode b_Mod_open 38 = .ok (.bastore, 1) := by decide +kernel
theorem d_Mod_open_39 : decode b_Mod_open 39 = .ok (.aload_n 0, 1) := by decide +kernel
theorem d_Mod_open_40 : decode b_Mod_open 40 = .ok (.dup, 1) := by decide +kernel
theorem d_Mod_open_41 : decode b_Mod_open 41 = .ok (.getfield 97, 3) := by decide +kernel
theorem d_Mod_open_44 : decode b_Mod_open 44 = .ok (.iconst 1, 1) := by decide +kernel
theorem d_Mod_open_45 : decode b_Mod_open 45 = .ok (.iadd, 1) := by decide +kernel
theorem d_Mod_open_46 : decode b_Mod_open 46 = .ok (.putfield 97, 3) := by decide +kernel
theorem d_Mod_open_49 : decode b_Mod_open 49 = .ok (.iconst 1, 1) := by decide +kernel
theorem d_Mod_open_50 : decode b_Mod_open 50 = .ok (.ireturn, 1) := by decide +kernel
theorem d_Mod_isVertical_0 : decode b_Mod_isVertical 0 = .ok (.aload_n 0, 1) := by decide +kernel
theorem d_Mod_isVertical_1 : decode b_Mod_isVertical 1 = .ok (.getfield 97, 3) := by decide +kernel
theorem d_Mod_isVertical_4 : decode b_Mod_isVertical 4 = .ok (.ifCond .le 21, 3) := by decide +kernel
theorem d_Mod_isVertical_7 : decode b_Mod_isVertical 7 = .ok (.aload_n 0, 1) := by decide +kernel
theorem d_Mod_isVertical_8 : decode b_Mod_isVertical 8 = .ok (.getfield 34, 3) := by decide +kernel
theorem d_Mod_isVertical_11 : decode b_Mod_isVertical 11 = .ok (.aload_n 0, 1) := by decide +kernel
theorem d_Mod_isVertical_12 : decode b_Mod_isVertical 12 = .ok (.getfield 97, 3) := by decide +kernel
theorem d_Mod_isVertical_15 : decode b_Mod_isVertical 15 = .ok (.iconst 1, 1) := by decide +kernel
theorem d_Mod_isVertical_16 : decode b_Mod_isVertical 16 = .ok (.isub, 1) := by decide +kernel
theorem d_Mod_isVertical_17 : decode b_Mod_isVertical 17 = .ok (.baload, 1) := by decide +kernel
theorem d_Mod_isVertical_18 : decode b_Mod_isVertical 18 = .ok (.ifCond .eq 7, 3) := by decide +kernel
theorem d_Mod_isVertical_21 : decode b_Mod_isVertical 21 = .ok (.iconst 1, 1) := by decide +kernel
theorem d_Mod_isVertical_22 : decode b_Mod_isVertical 22 = .ok (.goto 4, 3) := by decide +kernel
theorem d_Mod_isVertical_25 : decode b_Mod_isVertical 25 = .ok (.iconst 0, 1) := by decide +kernel
theorem d_Mod_isVertical_26 : decode b_Mod_isVertical 26 = .ok (.ireturn, 1) := by decide +kernel
theorem d_Mod_add_0 : decode b_Mod_add 0 = .ok (.aload_n 0, 1) := by decide +kernel
theorem d_Mod_add_1 : decode b_Mod_add 1 = .ok (.iconst 0, 1) := by decide +kernel
theorem d_Mod_add_2 : decode b_Mod_add 2 = .ok (.putfield 81, 3) := by decide +kernel
theorem d_Mod_add_5 : decode b_Mod_add 5 = .ok (.iload_n 1, 1) := by decide +kernel
theorem d_Mod_add_6 : decode b_Mod_add 6 = .ok (.ifCond .eq 18, 3) := by decide +kernel
theorem d_Mod_add_9 : decode b_Mod_add 9 = .ok (.aload_n 0, 1) := by decide +kernel
theorem d_Mod_add_10 : decode b_Mod_add 10 = .ok (.getfield 97, 3) := by decide +kernel
theorem d_Mod_add_13 : decode b_Mod_add 13 = .ok (.ifCond .eq 11, 3) := by decide +kernel
theorem d_Mod_add_16 : decode b_Mod_add 16 = .ok (.aload_n 0, 1) := by decide +kernel
theorem d_Mod_add_17 : decode b_Mod_add 17 = .ok (.iconst 1, 1) := by decide +kernel
theorem d_Mod_add_18 : decode b_Mod_add 18 = .ok (.invokevirtual 100, 3) := by decide +kernel
theorem d_Mod_add_21 : decode b_Mod_add 21 = .ok (.ifCond .ne 5, 3) := by decide +kernel
theorem d_Mod_add_24 : decode b_Mod_add 24 = .ok (.iconst 0, 1) := by decide +kernel
theorem d_Mod_add_25 : decode b_Mod_add 25 = .ok (.ireturn, 1) := by decide +kernel
theorem d_Mod_add_26 : decode b_Mod_add 26 = .ok (.aload_n 0, 1) := by decide +kernel
theorem d_Mod_add_27 : decode b_Mod_add 27 = .ok (.getfield 7, 3) := by decide +kernel
theorem d_Mod_add_30 : decode b_Mod_add 30 = .ok (.aload_n 0, 1) := by decide +kernel
theorem d_Mod_add_31 : decode b_Mod_add 31 = .ok (.getfield 90, 3) := by decide +kernel
theorem d_Mod_add_34 : decode b_Mod_add 34 = .ok (.iload_n 2, 1) := by decide +kernel
theorem d_Mod_add_35 : decode b_Mod_add 35 = .ok (.iastore, 1) := by decide +kernel
theorem d_Mod_add_36 : decode b_Mod_add 36 = .ok (.aload_n 0, 1) := by decide +kernel
theorem d_Mod_add_37 : decode b_Mod_add 37 = .ok (.getfield 13, 3) := by decide +kernel
theorem d_Mod_add_40 : decode b_Mod_add 40 = .ok (.aload_n 0, 1) := by decide +kernel
theorem d_Mod_add_41 : decode b_Mod_add 41 = .ok (.getfield 90, 3) := by decide +kernel
theorem d_Mod_add_44 : decode b_Mod_add 44 = .ok (.iload_n 3, 1) := by decide +kernel
theorem d_Mod_add_45 : decode b_Mod_add 45 = .ok (.iastore, 1) := by decide +kernel
theorem d_Mod_add_46 : decode b_Mod_add 46 = .ok (.aload_n 0, 1) := by decide +kernel
theorem d_Mod_add_47 : decode b_Mod_add 47 = .ok (.getfield 16, 3) := by decide +kernel
theorem d_Mod_add_50 : decode b_Mod_add 50 = .ok (.aload_n 0, 1) := by decide +kernel
theorem d_Mod_add_51 : decode b_Mod_add 51 = .ok (.getfield 90, 3) := by decide +kernel
theorem d_Mod_add_54 : decode b_Mod_add 54 = .ok (.iload 4, 2) := by decide +kernel
theorem d_Mod_add_56 : decode b_Mod_add 56 = .ok (.iastore, 1) := by decide +kernel
theorem d_Mod_add_57 : decode b_Mod_add 57 = .ok (.aload_n 0, 1) := by decide +kernel
theorem d_Mod_add_58 : decode b_Mod_add 58 = .ok (.getfield 19, 3) := by decide +kernel
theorem d_Mod_add_61 : decode b_Mod_add 61 = .ok (.aload_n 0, 1) := by decide +kernel
theorem d_Mod_add_62 : decode b_Mod_add 62 = .ok (.getfield 90, 3) := by decide +kernel
theorem d_Mod_add_65 : decode b_Mod_add 65 = .ok (.iload 5, 2) := by decide +kernel
theorem d_Mod_add_67 : decode b_Mod_add 67 = .ok (.iastore, 1) := by decide +kernel
theorem d_Mod_add_68 : decode b_Mod_add 68 = .ok (.aload_n 0, 1) := by decide +kernel
theorem d_Mod_add_69 : decode b_Mod_add 69 = .ok (.getfield 22, 3) := by decide +kernel
theorem d_Mod_add_72 : decode b_Mod_add 72 = .ok (.aload_n 0, 1) := by decide +kernel
theorem d_Mod_add_73 : decode b_Mod_add 73 = .ok (.getfield 90, 3) := by decide +kernel
theorem d_Mod_add_76 : decode b_Mod_add 76 = .ok (.iload 6, 2) := by decide +kernel
theorem d_Mod_add_78 : decode b_Mod_add 78 = .ok (.iastore, 1) := by decide +kernel
theorem d_Mod_add_79 : decode b_Mod_add 79 = .ok (.aload_n 0, 1) := by decide +kernel
theorem d_Mod_add_80 : decode b_Mod_add 80 = .ok (.getfield 25, 3) := by decide +kernel
theorem d_Mod_add_83 : decode b_Mod_add 83 = .ok (.aload_n 0, 1) := by decide +kernel
theorem d_Mod_add_84 : decode b_Mod_add 84 = .ok (.getfield 90, 3) := by decide +kernel
theorem d_Mod_add_87 : decode b_Mod_add 87 = .ok (.iload 7, 2) := by decide +kernel
theorem d_Mod_add_89 : decode b_Mod_add 89 = .ok (.iastore, 1) := by decide +kernel
theorem d_Mod_add_90 : decode b_Mod_add 90 = .ok (.aload_n 0, 1) := by decide +kernel
theorem d_Mod_add_91 : decode b_Mod_add 91 = .ok (.getfield 28, 3) := by decide +kernel
theorem d_Mod_add_94 : decode b_Mod_add 94 = .ok (.aload_n 0, 1) := by decide +kernel
theorem d_Mod_add_95 : decode b_Mod_add 95 = .ok (.getfield 90, 3) := by decide +kernel
theorem d_Mod_add_98 : decode b_Mod_add 98 = .ok (.iconst 1, 1) := by decide +kernel
theorem d_Mod_add_99 : decode b_Mod_add 99 = .ok (.iastore, 1) := by decide +kernel
theorem d_Mod_add_100 : decode b_Mod_add 100 = .ok (.aload_n 0, 1) := by decide +kernel
theorem d_Mod_add_101 : decode b_Mod_add 101 = .ok (.dup, 1) := by decide +kernel
theorem d_Mod_add_102 : decode b_Mod_add 102 = .ok (.getfield 90, 3) := by decide +kernel
theorem d_Mod_add_105 : decode b_Mod_add 105 = .ok (.iconst 1, 1) := by decide +kernel
theorem d_Mod_add_106 : decode b_Mod_add 106 = .ok (.iadd, 1) := by decide +kernel
theorem d_Mod_add_107 : decode b_Mod_add 107 = .ok (.putfield 90, 3) := by decide +kernel
theorem d_Mod_add_110 : decode b_Mod_add 110 = .ok (.iconst 1, 1) := by decide +kernel
theorem d_Mod_add_111 : decode b_Mod_add 111 = .ok (.ireturn, 1) := by decide +kernel
theorem d_Mod_character_0 : decode b_Mod_character 0 = .ok (.aload_n 0, 1) := by decide +kernel
theorem d_Mod_character_1 : decode b_Mod_character 1 = .ok (.aload_n 0, 1) := by decide +kernel
theorem d_Mod_character_2 : decode b_Mod_character 2 = .ok (.invokevirtual 104, 3) := by decide +kernel
theorem d_Mod_character_5 : decode b_Mod_character 5 = .ok (.ifCond .ne 51, 3) := by decide +kernel
theorem d_Mod_character_8 : decode b_Mod_character 8 = .ok (.iload_n 1, 1) := by decide +kernel
theorem d_Mod_character_9 : decode b_Mod_character 9 = .ok (.ifCond .lt 47, 3) := by decide +kernel
theorem d_Mod_character_12 : decode b_Mod_character 12 = .ok (.iload_n 1, 1) := by decide +kernel
theorem d_Mod_character_13 : decode b_Mod_character 13 = .ok (.bipush 32, 2) := by decide +kernel
theorem d_Mod_character_15 : decode b_Mod_character 15 = .ok (.if_icmp .ge 41, 3) := by decide +kernel
theorem d_Mod_character_18 : decode b_Mod_character 18 = .ok (.iload_n 2, 1) := by decide +kernel
theorem d_Mod_character_19 : decode b_Mod_character 19 = .ok (.ifCond .lt 37, 3) := by decide +kernel
theorem d_Mod_character_22 : decode b_Mod_character 22 = .ok (.iload_n 2, 1) := by decide +kernel
theorem d_Mod_character_23 : decode b_Mod_character 23 = .ok (.sipush 256, 3) := by decide +kernel
theorem d_Mod_character_26 : decode b_Mod_character 26 = .ok (.if_icmp .ge 30, 3) := by decide +kernel
theorem d_Mod_character_29 : decode b_Mod_character 29 = .ok (.iload_n 3, 1) := by decide +kernel
theorem d_Mod_character_30 : decode b_Mod_character 30 = .ok (.invokestatic 108, 3) := by decide +kernel
theorem d_Mod_character_33 : decode b_Mod_character 33 = .ok (.ifCond .eq 23, 3) := by decide +kernel
theorem d_Mod_character_36 : decode b_Mod_character 36 = .ok (.iload 4, 2) := by decide +kernel
theorem d_Mod_character_38 : decode b_Mod_character 38 = .ok (.invokestatic 108, 3) := by decide +kernel
theorem d_Mod_character_41 : decode b_Mod_character 41 = .ok (.ifCond .eq 15, 3) := by decide +kernel
theorem d_Mod_character_44 : decode b_Mod_character 44 = .ok (.iload 5, 2) := by decide +kernel
theorem d_Mod_character_46 : decode b_Mod_character 46 = .ok (.invokestatic 108, 3) := by decide +kernel
theorem d_Mod_character_49 : decode b_Mod_character 49 = .ok (.ifCond .eq 7, 3) := by decide +kernel
theorem d_Mod_character_52 : decode b_Mod_character 52 = .ok (.iconst 1, 1) := by decide +kernel
theorem d_Mod_character_53 : decode b_Mod_character 53 = .ok (.goto 4, 3) := by decide +kernel
theorem d_Mod_character_56 : decode b_Mod_character 56 = .ok (.iconst 0, 1) := by decide +kernel
theorem d_Mod_character_57 : decode b_Mod_character 57 = .ok (.iconst 1, 1) := by decide +kernel
theorem d_Mod_character_58 : decode b_Mod_character 58 = .ok (.iload_n 3, 1) := by decide +kernel
theorem d_Mod_character_59 : decode b_Mod_character 59 = .ok (.iload 4, 2) := by decide +kernel
theorem d_Mod_character_61 : decode b_Mod_character 61 = .ok (.iload 5, 2) := by decide +kernel
theorem d_Mod_character_63 : decode b_Mod_character 63 = .ok (.iload_n 1, 1) := by decide +kernel
theorem d_Mod_character_64 : decode b_Mod_character 64 = .ok (.iload_n 2, 1) := by decide +kernel
theorem d_Mod_character_65 : decode b_Mod_character 65 = .ok (.invokevirtual 111, 3) := by decide +kernel
theorem d_Mod_character_68 : decode b_Mod_character 68 = .ok (.ireturn, 1) := by decide +kernel
theorem d_Mod_rule_0 : decode b_Mod_rule 0 = .ok (.aload_n 0, 1) := by decide +kernel
theorem d_Mod_rule_1 : decode b_Mod_rule 1 = .ok (.invokevirtual 104, 3) := by decide +kernel
theorem d_Mod_rule_4 : decode b_Mod_rule 4 = .ok (.ifCond .eq 22, 3) := by decide +kernel
theorem d_Mod_rule_7 : decode b_Mod_rule 7 = .ok (.iload 4, 2) := by decide +kernel
theorem d_Mod_rule_9 : decode b_Mod_rule 9 = .ok (.ifCond .eq 9, 3) := by decide +kernel
theorem d_Mod_rule_12 : decode b_Mod_rule 12 = .ok (.iload 4, 2) := by decide +kernel
theorem d_Mod_rule_14 : decode b_Mod_rule 14 = .ok (.iconst 1, 1) := by decide +kernel
theorem d_Mod_rule_15 : decode b_Mod_rule 15 = .ok (.if_icmp .ne 7, 3) := by decide +kernel
theorem d_Mod_rule_18 : decode b_Mod_rule 18 = .ok (.iconst 1, 1) := by decide +kernel
theorem d_Mod_rule_19 : decode b_Mod_rule 19 = .ok (.goto 36, 3) := by decide +kernel
theorem d_Mod_rule_22 : decode b_Mod_rule 22 = .ok (.iconst 0, 1) := by decide +kernel
theorem d_Mod_rule_23 : decode b_Mod_rule 23 = .ok (.goto 32, 3) := by decide +kernel
theorem d_Mod_rule_26 : decode b_Mod_rule 26 = .ok (.iload 4, 2) := by decide +kernel
theorem d_Mod_rule_28 : decode b_Mod_rule 28 = .ok (.ifCond .eq 22, 3) := by decide +kernel
theorem d_Mod_rule_31 : decode b_Mod_rule 31 = .ok (.iload 4, 2) := by decide +kernel
theorem d_Mod_rule_33 : decode b_Mod_rule 33 = .ok (.iconst 2, 1) := by decide +kernel
theorem d_Mod_rule_34 : decode b_Mod_rule 34 = .ok (.if_icmp .eq 16, 3) := by decide +kernel
theorem d_Mod_rule_37 : decode b_Mod_rule 37 = .ok (.iload 4, 2) := by decide +kernel
theorem d_Mod_rule_39 : decode b_Mod_rule 39 = .ok (.iconst 4, 1) := by decide +kernel
theorem d_Mod_rule_40 : decode b_Mod_rule 40 = .ok (.if_icmp .eq 10, 3) := by decide +kernel
theorem d_Mod_rule_43 : decode b_Mod_rule 43 = .ok (.iload 4, 2) := by decide +kernel
theorem d_Mod_rule_45 : decode b_Mod_rule 45 = .ok (.bipush 6, 2) := by decide +kernel
theorem d_Mod_rule_47 : decode b_Mod_rule 47 = .ok (.if_icmp .ne 7, 3) := by decide +kernel
theorem d_Mod_rule_50 : decode b_Mod_rule 50 = .ok (.iconst 1, 1) := by decide +kernel
theorem d_Mod_rule_51 : decode b_Mod_rule 51 = .ok (.goto 4, 3) := by decide +kernel
theorem d_Mod_rule_54 : decode b_Mod_rule 54 = .ok (.iconst 0, 1) := by decide +kernel
theorem d_Mod_rule_55 : decode b_Mod_rule 55 = .ok (.istore 5, 2) := by decide +kernel
theorem d_Mod_rule_57 : decode b_Mod_rule 57 = .ok (.aload_n 0, 1) := by decide +kernel
theorem d_Mod_rule_58 : decode b_Mod_rule 58 = .ok (.iload 5, 2) := by decide +kernel
theorem d_Mod_rule_60 : decode b_Mod_rule 60 = .ok (.ifCond .eq 28, 3) := by decide +kernel
theorem d_Mod_rule_63 : decode b_Mod_rule 63 = .ok (.iload_n 1, 1) := by decide +kernel
theorem d_Mod_rule_64 : decode b_Mod_rule 64 = .ok (.invokestatic 108, 3) := by decide +kernel
theorem d_Mod_rule_67 : decode b_Mod_rule 67 = .ok (.ifCond .eq 21, 3) := by decide +kernel
theorem d_Mod_rule_70 : decode b_Mod_rule 70 = .ok (.iload_n 2, 1) := by decide +kernel
theorem d_Mod_rule_71 : decode b_Mod_rule 71 = .ok (.invokestatic 108, 3) := by decide +kernel
theorem d_Mod_rule_74 : decode b_Mod_rule 74 = .ok (.ifCond .eq 14, 3) := by decide +kernel
theorem d_Mod_rule_77 : decode b_Mod_rule 77 = .ok (.iload_n 3, 1) := by decide +kernel
theorem d_Mod_rule_78 : decode b_Mod_rule 78 = .ok (.invokestatic 108, 3) := by decide +kernel
theorem d_Mod_rule_81 : decode b_Mod_rule 81 = .ok (.ifCond .eq 7, 3) := by decide +kernel
theorem d_Mod_rule_84 : decode b_Mod_rule 84 = .ok (.iconst 1, 1) := by decide +kernel
theorem d_Mod_rule_85 : decode b_Mod_rule 85 = .ok (.goto 4, 3) := by decide +kernel
theorem d_Mod_rule_88 : decode b_Mod_rule 88 = .ok (.iconst 0, 1) := by decide +kernel
theorem d_Mod_rule_89 : decode b_Mod_rule 89 = .ok (.iconst 2, 1) := by decide +kernel
theorem d_Mod_rule_90 : decode b_Mod_rule 90 = .ok (.iload 4, 2) := by decide +kernel
theorem d_Mod_rule_92 : decode b_Mod_rule 92 = .ok (.iconst 1, 1) := by decide +kernel
theorem d_Mod_rule_93 : decode b_Mod_rule 93 = .ok (.iand, 1) := by decide +kernel
theorem d_Mod_rule_94 : decode b_Mod_rule 94 = .ok (.iconst 1, 1) := by decide +kernel
theorem d_Mod_rule_95 : decode b_Mod_rule 95 = .ok (.if_icmp .ne 8, 3) := by decide +kernel
theorem d_Mod_rule_98 : decode b_Mod_rule 98 = .ok (.ldc 115, 2) := by decide +kernel
theorem d_Mod_rule_100 : decode b_Mod_rule 100 = .ok (.goto 4, 3) := by decide +kernel
theorem d_Mod_rule_103 : decode b_Mod_rule 103 = .ok (.iload_n 1, 1) := by decide +kernel
theorem d_Mod_rule_104 : decode b_Mod_rule 104 = .ok (.iload 4, 2) := by decide +kernel
theorem d_Mod_rule_106 : decode b_Mod_rule 106 = .ok (.iconst 2, 1) := by decide +kernel
theorem d_Mod_rule_107 : decode b_Mod_rule 107 = .ok (.iand, 1) := by decide +kernel
theorem d_Mod_rule_108 : decode b_Mod_rule 108 = .ok (.iconst 2, 1) := by decide +kernel
theorem d_Mod_rule_109 : decode b_Mod_rule 109 = .ok (.if_icmp .ne 8, 3) := by decide +kernel
theorem d_Mod_rule_112 : decode b_Mod_rule 112 = .ok (.ldc 115, 2) := by decide +kernel
theorem d_Mod_rule_114 : decode b_Mod_rule 114 = .ok (.goto 4, 3) := by decide +kernel
theorem d_Mod_rule_117 : decode b_Mod_rule 117 = .ok (.iload_n 2, 1) := by decide +kernel
theorem d_Mod_rule_118 : decode b_Mod_rule 118 = .ok (.iload 4, 2) := by decide +kernel
theorem d_Mod_rule_120 : decode b_Mod_rule 120 = .ok (.iconst 4, 1) := by decide +kernel
theorem d_Mod_rule_121 : decode b_Mod_rule 121 = .ok (.iand, 1) := by decide +kernel
theorem d_Mod_rule_122 : decode b_Mod_rule 122 = .ok (.iconst 4, 1) := by decide +kernel
theorem d_Mod_rule_123 : decode b_Mod_rule 123 = .ok (.if_icmp .ne 8, 3) := by decide +kernel
theorem d_Mod_rule_126 : decode b_Mod_rule 126 = .ok (.ldc 115, 2) := by decide +kernel
theorem d_Mod_rule_128 : decode b_Mod_rule 128 = .ok (.goto 4, 3) := by decide +kernel
theorem d_Mod_rule_131 : decode b_Mod_rule 131 = .ok (.iload_n 3, 1) := by decide +kernel
theorem d_Mod_rule_132 : decode b_Mod_rule 132 = .ok (.iconst 0, 1) := by decide +kernel
theorem d_Mod_rule_133 : decode b_Mod_rule 133 = .ok (.iconst 0, 1) := by decide +kernel
theorem d_Mod_rule_134 : decode b_Mod_rule 134 = .ok (.invokevirtual 111, 3) := by decide +kernel
theorem d_Mod_rule_137 : decode b_Mod_rule 137 = .ok (.ireturn, 1) := by decide +kernel
theorem d_Mod_space_0 : decode b_Mod_space 0 = .ok (.aload_n 0, 1) := by decide +kernel
theorem d_Mod_space_1 : decode b_Mod_space 1 = .ok (.iload_n 1, 1) := by decide +kernel
theorem d_Mod_space_2 : decode b_Mod_space 2 = .ok (.invokestatic 108, 3) := by decide +kernel
theorem d_Mod_space_5 : decode b_Mod_space 5 = .ok (.iconst 3, 1) := by decide +kernel
theorem d_Mod_space_6 : decode b_Mod_space 6 = .ok (.iload_n 1, 1) := by decide +kernel
theorem d_Mod_space_7 : decode b_Mod_space 7 = .ok (.iconst 0, 1) := by decide +kernel
theorem d_Mod_space_8 : decode b_Mod_space 8 = .ok (.iconst 0, 1) := by decide +kernel
theorem d_Mod_space_9 : decode b_Mod_space 9 = .ok (.iconst 0, 1) := by decide +kernel
theorem d_Mod_space_10 : decode b_Mod_space 10 = .ok (.iconst 0, 1) := by decide +kernel
theorem d_Mod_space_11 : decode b_Mod_space 11 = .ok (.invokevirtual 111, 3) := by decide +kernel
theorem d_Mod_space_14 : decode b_Mod_space 14 = .ok (.ireturn, 1) := by decide +kernel
theorem d_Mod_isBox_0 : decode b_Mod_isBox 0 = .ok (.aload_n 0, 1) := by decide +kernel
theorem d_Mod_isBox_1 : decode b_Mod_isBox 1 = .ok (.getfield 7, 3) := by decide +kernel
theorem d_Mod_isBox_4 : decode b_Mod_isBox 4 = .ok (.iload_n 1, 1) := by decide +kernel
theorem d_Mod_isBox_5 : decode b_Mod_isBox 5 = .ok (.iaload, 1) := by decide +kernel
theorem d_Mod_isBox_6 : decode b_Mod_isBox 6 = .ok (.iconst 4, 1) := by decide +kernel
theorem d_Mod_isBox_7 : decode b_Mod_isBox 7 = .ok (.if_icmp .eq 13, 3) := by decide +kernel
theorem d_Mod_isBox_10 : decode b_Mod_isBox 10 = .ok (.aload_n 0, 1) := by decide +kernel
theorem d_Mod_isBox_11 : decode b_Mod_isBox 11 = .ok (.getfield 7, 3) := by decide +kernel
theorem d_Mod_isBox_14 : decode b_Mod_isBox 14 = .ok (.iload_n 1, 1) := by decide +kernel
theorem d_Mod_isBox_15 : decode b_Mod_isBox 15 = .ok (.iaload, 1) := by decide +kernel
theorem d_Mod_isBox_16 : decode b_Mod_isBox 16 = .ok (.iconst 5, 1) := by decide +kernel
theorem d_Mod_isBox_17 : decode b_Mod_isBox 17 = .ok (.if_icmp .ne 7, 3) := by decide +kernel
theorem d_Mod_isBox_20 : decode b_Mod_isBox 20 = .ok (.iconst 1, 1) := by decide +kernel
theorem d_Mod_isBox_21 : decode b_Mod_isBox 21 = .ok (.goto 4, 3) := by decide +kernel
theorem d_Mod_isBox_24 : decode b_Mod_isBox 24 = .ok (.iconst 0, 1) := by decide +kernel
theorem d_Mod_isBox_25 : decode b_Mod_isBox 25 = .ok (.ireturn, 1) := by decide +kernel
theorem d_Mod_nested_0 : decode b_Mod_nested 0 = .ok (.iconst 0, 1) := by decide +kernel
theorem d_Mod_nested_1 : decode b_Mod_nested 1 = .ok (.istore_n 3, 1) := by decide +kernel
theorem d_Mod_nested_2 : decode b_Mod_nested 2 = .ok (.iload_n 1, 1) := by decide +kernel
theorem d_Mod_nested_3 : decode b_Mod_nested 3 = .ok (.istore 4, 2) := by decide +kernel
theorem d_Mod_nested_5 : decode b_Mod_nested 5 = .ok (.iload 4, 2) := by decide +kernel
theorem d_Mod_nested_7 : decode b_Mod_nested 7 = .ok (.iload_n 2, 1) := by decide +kernel
theorem d_Mod_nested_8 : decode b_Mod_nested 8 = .ok (.if_icmp .ge 84, 3) := by decide +kernel
theorem d_Mod_nested_11 : decode b_Mod_nested 11 = .ok (.iconst 0, 1) := by decide +kernel
theorem d_Mod_nested_12 : decode b_Mod_nested 12 = .ok (.istore 5, 2) := by decide +kernel
theorem d_Mod_nested_14 : decode b_Mod_nested 14 = .ok (.iload_n 1, 1) := by decide +kernel
theorem d_Mod_nested_15 : decode b_Mod_nested 15 = .ok (.istore 6, 2) := by decide +kernel
theorem d_Mod_nested_17 : decode b_Mod_nested 17 = .ok (.iload 6, 2) := by decide +kernel
theorem d_Mod_nested_19 : decode b_Mod_nested 19 = .ok (.iload 4, 2) := by decide +kernel
theorem d_Mod_nested_21 : decode b_Mod_nested 21 = .ok (.if_icmp .gt 52, 3) := by decide +kernel
theorem d_Mod_nested_24 : decode b_Mod_nested 24 = .ok (.aload_n 0, 1) := by decide +kernel
theorem d_Mod_nested_25 : decode b_Mod_nested 25 = .ok (.iload 4, 2) := by decide +kernel
theorem d_Mod_nested_27 : decode b_Mod_nested 27 = .ok (.invokevirtual 116, 3) := by decide +kernel
theorem d_Mod_nested_30 : decode b_Mod_nested 30 = .ok (.ifCond .eq 43, 3) := by decide +kernel
theorem d_Mod_nested_33 : decode b_Mod_nested 33 = .ok (.iload 5, 2) := by decide +kernel
theorem d_Mod_nested_35 : decode b_Mod_nested 35 = .ok (.aload_n 0, 1) := by decide +kernel
theorem d_Mod_nested_36 : decode b_Mod_nested 36 = .ok (.iload 6, 2) := by decide +kernel
theorem d_Mod_nested_38 : decode b_Mod_nested 38 = .ok (.invokevirtual 116, 3) := by decide +kernel
theorem d_Mod_nested_41 : decode b_Mod_nested 41 = .ok (.ifCond .eq 22, 3) := by decide +kernel
theorem d_Mod_nested_44 : decode b_Mod_nested 44 = .ok (.iload 6, 2) := by decide +kernel
theorem d_Mod_nested_46 : decode b_Mod_nested 46 = .ok (.aload_n 0, 1) := by decide +kernel
theorem d_Mod_nested_47 : decode b_Mod_nested 47 = .ok (.getfield 28, 3) := by decide +kernel
theorem d_Mod_nested_50 : decode b_Mod_nested 50 = .ok (.iload 6, 2) := by decide +kernel
theorem d_Mod_nested_52 : decode b_Mod_nested 52 = .ok (.iaload, 1) := by decide +kernel
theorem d_Mod_nested_53 : decode b_Mod_nested 53 = .ok (.iadd, 1) := by decide +kernel
theorem d_Mod_nested_54 : decode b_Mod_nested 54 = .ok (.iload 4, 2) := by decide +kernel
theorem d_Mod_nested_56 : decode b_Mod_nested 56 = .ok (.if_icmp .le 7, 3) := by decide +kernel
theorem d_Mod_nested_59 : decode b_Mod_nested 59 = .ok (.iconst 1, 1) := by decide +kernel
theorem d_Mod_nested_60 : decode b_Mod_nested 60 = .ok (.goto 4, 3) := by decide +kernel
theorem d_Mod_nested_63 : decode b_Mod_nested 63 = .ok (.iconst 0, 1) := by decide +kernel
theorem d_Mod_nested_64 : decode b_Mod_nested 64 = .ok (.iadd, 1) := by decide +kernel
theorem d_Mod_nested_65 : decode b_Mod_nested 65 = .ok (.istore 5, 2) := by decide +kernel
theorem d_Mod_nested_67 : decode b_Mod_nested 67 = .ok (.iinc 6 1, 3) := by decide +kernel
theorem d_Mod_nested_70 : decode b_Mod_nested 70 = .ok (.goto (-53), 3) := by decide +kernel
theorem d_Mod_nested_73 : decode b_Mod_nested 73 = .ok (.iload 5, 2) := by decide +kernel
theorem d_Mod_nested_75 : decode b_Mod_nested 75 = .ok (.iload_n 3, 1) := by decide +kernel
theorem d_Mod_nested_76 : decode b_Mod_nested 76 = .ok (.if_icmp .le 8, 3) := by decide +kernel
theorem d_Mod_nested_79 : decode b_Mod_nested 79 = .ok (.iload 5, 2) := by decide +kernel
theorem d_Mod_nested_81 : decode b_Mod_nested 81 = .ok (.goto 4, 3) := by decide +kernel
theorem d_Mod_nested_84 : decode b_Mod_nested 84 = .ok (.iload_n 3, 1) := by decide +kernel
theorem d_Mod_nested_85 : decode b_Mod_nested 85 = .ok (.istore_n 3, 1) := by decide +kernel
theorem d_Mod_nested_86 : decode b_Mod_nested 86 = .ok (.iinc 4 1, 3) := by decide +kernel
theorem d_Mod_nested_89 : decode b_Mod_nested 89 = .ok (.goto (-84), 3) := by decide +kernel
theorem d_Mod_nested_92 : decode b_Mod_nested 92 = .ok (.iload_n 3, 1) := by decide +kernel
theorem d_Mod_nested_93 : decode b_Mod_nested 93 = .ok (.ireturn, 1) := by decide +kernel
theorem d_Mod_empty_0 : decode b_Mod_empty 0 = .ok (.aload_n 0, 1) := by decide +kernel
theorem d_Mod_empty_1 : decode b_Mod_empty 1 = .ok (.iload_n 1, 1) := by decide +kernel
theorem d_Mod_empty_2 : decode b_Mod_empty 2 = .ok (.invokevirtual 119, 3) := by decide +kernel
theorem d_Mod_empty_5 : decode b_Mod_empty 5 = .ok (.istore_n 2, 1) := by decide +kernel
theorem d_Mod_empty_6 : decode b_Mod_empty 6 = .ok (.aload_n 0, 1) := by decide +kernel
theorem d_Mod_empty_7 : decode b_Mod_empty 7 = .ok (.getfield 38, 3) := by decide +kernel
theorem d_Mod_empty_10 : decode b_Mod_empty 10 = .ok (.iload_n 1, 1) := by decide +kernel
theorem d_Mod_empty_11 : decode b_Mod_empty 11 = .ok (.iaload, 1) := by decide +kernel
theorem d_Mod_empty_12 : decode b_Mod_empty 12 = .ok (.istore_n 3, 1) := by decide +kernel
theorem d_Mod_empty_13 : decode b_Mod_empty 13 = .ok (.sipush 3100, 3) := by decide +kernel
theorem d_Mod_empty_16 : decode b_Mod_empty 16 = .ok (.aload_n 0, 1) := by decide +kernel
theorem d_Mod_empty_17 : decode b_Mod_empty 17 = .ok (.invokevirtual 93, 3) := by decide +kernel
theorem d_Mod_empty_20 : decode b_Mod_empty 20 = .ok (.iadd, 1) := by decide +kernel
theorem d_Mod_empty_21 : decode b_Mod_empty 21 = .ok (.istore 4, 2) := by decide +kernel
theorem d_Mod_empty_23 : decode b_Mod_empty 23 = .ok (.iload_n 2, 1) := by decide +kernel
theorem d_Mod_empty_24 : decode b_Mod_empty 24 = .ok (.iload_n 3, 1) := by decide +kernel
theorem d_Mod_empty_25 : decode b_Mod_empty 25 = .ok (.iadd, 1) := by decide +kernel
theorem d_Mod_empty_26 : decode b_Mod_empty 26 = .ok (.istore 5, 2) := by decide +kernel
theorem d_Mod_empty_28 : decode b_Mod_empty 28 = .ok (.iload 5, 2) := by decide +kernel
theorem d_Mod_empty_30 : decode b_Mod_empty 30 = .ok (.iload 4, 2) := by decide +kernel
theorem d_Mod_empty_32 : decode b_Mod_empty 32 = .ok (.if_icmp .ge 19, 3) := by decide +kernel
theorem d_Mod_empty_35 : decode b_Mod_empty 35 = .ok (.aload_n 0, 1) := by decide +kernel
theorem d_Mod_empty_36 : decode b_Mod_empty 36 = .ok (.iload 5, 2) := by decide +kernel
theorem d_Mod_empty_38 : decode b_Mod_empty 38 = .ok (.iload 5, 2) := by decide +kernel
theorem d_Mod_empty_40 : decode b_Mod_empty 40 = .ok (.iload_n 3, 1) := by decide +kernel
theorem d_Mod_empty_41 : decode b_Mod_empty 41 = .ok (.isub, 1) := by decide +kernel
theorem d_Mod_empty_42 : decode b_Mod_empty 42 = .ok (.invokevirtual 123, 3) := by decide +kernel
theorem d_Mod_empty_45 : decode b_Mod_empty 45 = .ok (.iinc 5 1, 3) := by decide +kernel
theorem d_Mod_empty_48 : decode b_Mod_empty 48 = .ok (.goto (-20), 3) := by decide +kernel
theorem d_Mod_empty_51 : decode b_Mod_empty 51 = .ok (.aload_n 0, 1) := by decide +kernel
theorem d_Mod_empty_52 : decode b_Mod_empty 52 = .ok (.getfield 38, 3) := by decide +kernel
theorem d_Mod_empty_55 : decode b_Mod_empty 55 = .ok (.iload_n 1, 1) := by decide +kernel
theorem d_Mod_empty_56 : decode b_Mod_empty 56 = .ok (.iconst 0, 1) := by decide +kernel
theorem d_Mod_empty_57 : decode b_Mod_empty 57 = .ok (.iastore, 1) := by decide +kernel
theorem d_Mod_empty_58 : decode b_Mod_empty 58 = .ok (.return_, 1) := by decide +kernel
theorem d_Mod_make_0 : decode b_Mod_make 0 = .ok (.aload_n 0, 1) := by decide +kernel
theorem d_Mod_make_1 : decode b_Mod_make 1 = .ok (.iload_n 1, 1) := by decide +kernel
theorem d_Mod_make_2 : decode b_Mod_make 2 = .ok (.invokevirtual 119, 3) := by decide +kernel
theorem d_Mod_make_5 : decode b_Mod_make 5 = .ok (.istore_n 3, 1) := by decide +kernel
theorem d_Mod_make_6 : decode b_Mod_make 6 = .ok (.sipush 3100, 3) := by decide +kernel
theorem d_Mod_make_9 : decode b_Mod_make 9 = .ok (.aload_n 0, 1) := by decide +kernel
theorem d_Mod_make_10 : decode b_Mod_make 10 = .ok (.invokevirtual 93, 3) := by decide +kernel
theorem d_Mod_make_13 : decode b_Mod_make 13 = .ok (.iadd, 1) := by decide +kernel
theorem d_Mod_make_14 : decode b_Mod_make 14 = .ok (.iconst 1, 1) := by decide +kernel
theorem d_Mod_make_15 : decode b_Mod_make 15 = .ok (.isub, 1) := by decide +kernel
theorem d_Mod_make_16 : decode b_Mod_make 16 = .ok (.istore 4, 2) := by decide +kernel
theorem d_Mod_make_18 : decode b_Mod_make 18 = .ok (.iload 4, 2) := by decide +kernel
theorem d_Mod_make_20 : decode b_Mod_make 20 = .ok (.iload_n 3, 1) := by decide +kernel
theorem d_Mod_make_21 : decode b_Mod_make 21 = .ok (.if_icmp .lt 19, 3) := by decide +kernel
theorem d_Mod_make_24 : decode b_Mod_make 24 = .ok (.aload_n 0, 1) := by decide +kernel
theorem d_Mod_make_25 : decode b_Mod_make 25 = .ok (.iload 4, 2) := by decide +kernel
theorem d_Mod_make_27 : decode b_Mod_make 27 = .ok (.iload 4, 2) := by decide +kernel
theorem d_Mod_make_29 : decode b_Mod_make 29 = .ok (.iload_n 2, 1) := by decide +kernel
theorem d_Mod_make_30 : decode b_Mod_make 30 = .ok (.iadd, 1) := by decide +kernel
theorem d_Mod_make_31 : decode b_Mod_make 31 = .ok (.invokevirtual 123, 3) := by decide +kernel
theorem d_Mod_make_34 : decode b_Mod_make 34 = .ok (.iinc 4 (-1), 3) := by decide +kernel
theorem d_Mod_make_37 : decode b_Mod_make 37 = .ok (.goto (-19), 3) := by decide +kernel
theorem d_Mod_make_40 : decode b_Mod_make 40 = .ok (.aload_n 0, 1) := by decide +kernel
theorem d_Mod_make_41 : decode b_Mod_make 41 = .ok (.getfield 38, 3) := by decide +kernel
theorem d_Mod_make_44 : decode b_Mod_make 44 = .ok (.iload_n 1, 1) := by decide +kernel
theorem d_Mod_make_45 : decode b_Mod_make 45 = .ok (.iload_n 2, 1) := by decide +kernel
theorem d_Mod_make_46 : decode b_Mod_make 46 = .ok (.iastore, 1) := by decide +kernel
theorem d_Mod_make_47 : decode b_Mod_make 47 = .ok (.return_, 1) := by decide +kernel
